theorem ux_21 : Cond.lays RJx4a65c "java/util/AbstractList" "modCount" "I" ∈ kt_ := kt_m (kt_t1 _ (List.mem_of_getElem? (i := 62) (by decide +kernel))) (by decide +kernel)
theorem ux_22 : Cond.lays RJx4a65c "java/util/ArrayList" "elementData" "[Ljava/lang/Object;" ∈ kt_ := kt_m (kt_t1 _ (List.mem_of_getElem? (i := 58) (by decide +kernel))) (by decide +kernel)
theorem ux_23 : Cond.lays RJx4a65c "java/util/ArrayList" "size" "I" ∈ kt_ := kt_m (kt_t1 _ (List.mem_of_getElem? (i := 60) (by decide +kernel))) (by decide +kernel)
theorem ux_24 : Cond.instantiable RJx4a65c 3 ∈ kt_ := kt_m (kt_t1 _ (List.mem_of_getElem? (i := 40) (by decide +kernel))) (by decide +kernel)
theorem ux_25 : Cond.initialized RJx4a65c ∈ kt_ := kt_m (kt_t1 _ (List.mem_of_getElem? (i := 4) (by decide +kernel))) (by decide +kernel)
theorem ux_26 : Cond.laysFinal RX0 "LogRiver$Boom" "heap" "Ljava/util/List;" ∈ kt_ := kt_m (kt_t3 _ (List.mem_of_getElem? (i := 91) (by decide +kernel))) (by decide +kernel)
theorem ux_27 : Cond.laysFinal RX0 "LogRiver$Boom" "orders" "Ljava/util/List;" ∈ kt_ := kt_m (kt_t3 _ (List.mem_of_getElem? (i := 93) (by decide +kernel))) (by decide +kernel)
theorem ux_28 : Cond.lays RX0 "LogRiver$Boom" "marks" "I" ∈ kt_ := kt_m (kt_t3 _ (List.mem_of_getElem? (i := 95) (by decide +kernel))) (by decide +kernel)
theorem ux_29 : Cond.lays RX0 "LogRiver$Boom" "room" "I" ∈ kt_ := kt_m (kt_t3 _ (List.mem_of_getElem? (i := 97) (by decide +kernel))) (by decide +kernel)
theorem ux_30 : Cond.instantiable RX0 4 ∈ kt_ := kt_m (kt_t3 _ (List.mem_of_getElem? (i := 77) (by decide +kernel))) (by decide +kernel)
theorem ux_31 : Cond.initialized RX0 ∈ kt_ := kt_m (kt_t1 _ (List.mem_of_getElem? (i := 22) (by decide +kernel))) (by decide +kernel)
theorem ux_32 : Cond.laysFinal RX1 "LogRiver$Cell" "carry" "I" ∈ kt_ := kt_m (kt_t2 _ (List.mem_of_getElem? (i := 70) (by decide +kernel))) (by decide +kernel)
theorem ux_33 : Cond.laysFinal RX1 "LogRiver$Cell" "logs" "Ljava/util/List;" ∈ kt_ := kt_m (kt_t2 _ (List.mem_of_getElem? (i := 72) (by decide +kernel))) (by decide +kernel)
theorem ux_34 : Cond.lays RX1 "LogRiver$Cell" "jammed" "Z" ∈ kt_ := kt_m (kt_t2 _ (List.mem_of_getElem? (i := 74) (by decide +kernel))) (by decide +kernel)
theorem ux_35 : Cond.lays RX1 "LogRiver$Cell" "known" "Z" ∈ kt_ := kt_m (kt_t2 _ (List.mem_of_getElem? (i := 76) (by decide +kernel))) (by decide +kernel)
theorem ux_36 : Cond.instantiable RX1 4 ∈ kt_ := kt_m (kt_t2 _ (List.mem_of_getElem? (i := 54) (by decide +kernel))) (by decide +kernel)
theorem ux_37 : Cond.initialized RX1 ∈ kt_ := kt_m (kt_t1 _ (List.mem_of_getElem? (i := 13) (by decide +kernel))) (by decide +kernel)
theorem ux_38 : Cond.lays RX2 "LogRiver$Crew" "reach" "LLogRiver$Reach;" ∈ kt_ := kt_m (kt_t3 _ (List.mem_of_getElem? (i := 129) (by decide +kernel))) (by decide +kernel)
theorem ux_39 : Cond.lays RX2 "LogRiver$Crew" "readyAt" "I" ∈ kt_ := kt_m (kt_t3 _ (List.mem_of_getElem? (i := 131) (by decide +kernel))) (by decide +kernel)
theorem ux_40 : Cond.instantiable RX2 2 ∈ kt_ := kt_m (kt_t3 _ (List.mem_of_getElem? (i := 120) (by decide +kernel))) (by decide +kernel)
theorem ux_41 : Cond.initialized RX2 ∈ kt_ := kt_m (kt_t1 _ (List.mem_of_getElem? (i := 23) (by decide +kernel))) (by decide +kernel)
theorem ux_42 : Cond.laysFinal RX3 "LogRiver$Judge" "stack" "[I" ∈ kt_ := kt_m (kt_t1 _ (List.mem_of_getElem? (i := 144) (by decide +kernel))) (by decide +kernel)
theorem ux_43 : Cond.laysFinal RX3 "LogRiver$Judge" "names" "[I" ∈ kt_ := kt_m (kt_t1 _ (List.mem_of_getElem? (i := 146) (by decide +kernel))) (by decide +kernel)
theorem ux_44 : Cond.lays RX3 "LogRiver$Judge" "height" "I" ∈ kt_ := kt_m (kt_t1 _ (List.mem_of_getElem? (i := 148) (by decide +kernel))) (by decide +kernel)
theorem ux_45 : Cond.lays RX3 "LogRiver$Judge" "barred" "Z" ∈ kt_ := kt_m (kt_t1 _ (List.mem_of_getElem? (i := 150) (by decide +kernel))) (by decide +kernel)
theorem ux_46 : Cond.lays RX3 "LogRiver$Judge" "toll" "J" ∈ kt_ := kt_m (kt_t1 _ (List.mem_of_getElem? (i := 152) (by decide +kernel))) (by decide +kernel)
theorem ux_47 : Cond.instantiable RX3 5 ∈ kt_ := kt_m (kt_t1 _ (List.mem_of_getElem? (i := 132) (by decide +kernel))) (by decide +kernel)
theorem ux_48 : Cond.initialized RX3 ∈ kt_ := kt_m (kt_t1 _ (List.mem_of_getElem? (i := 8) (by decide +kernel))) (by decide +kernel)
theorem ux_49 : Cond.laysFinal RX4 "LogRiver$Law" "day" "I" ∈ kt_ := kt_m (kt_t4 _ (List.mem_of_getElem? (i := 77) (by decide +kernel))) (by decide +kernel)
theorem ux_50 : Cond.laysFinal RX4 "LogRiver$Law" "code" "[I" ∈ kt_ := kt_m (kt_t4 _ (List.mem_of_getElem? (i := 79) (by decide +kernel))) (by decide +kernel)
theorem ux_51 : Cond.instantiable RX4 2 ∈ kt_ := kt_m (kt_t4 _ (List.mem_of_getElem? (i := 58) (by decide +kernel))) (by decide +kernel)
theorem ux_52 : Cond.initialized RX4 ∈ kt_ := kt_m (kt_t1 _ (List.mem_of_getElem? (i := 28) (by decide +kernel))) (by decide +kernel)
theorem ux_53 : Cond.laysFinal RX5 "LogRiver$LawReader" "tokens" "LLogRiver$Tokens;" ∈ kt_ := kt_m (kt_t1 _ (List.mem_of_getElem? (i := 120) (by decide +kernel))) (by decide +kernel)
theorem ux_54 : Cond.laysFinal RX5 "LogRiver$LawReader" "code" "[I" ∈ kt_ := kt_m (kt_t1 _ (List.mem_of_getElem? (i := 122) (by decide +kernel))) (by decide +kernel)
theorem ux_55 : Cond.lays RX5 "LogRiver$LawReader" "codeLength" "I" ∈ kt_ := kt_m (kt_t1 _ (List.mem_of_getElem? (i := 124) (by decide +kernel))) (by decide +kernel)
theorem ux_56 : Cond.lays RX5 "LogRiver$LawReader" "fault" "I" ∈ kt_ := kt_m (kt_t1 _ (List.mem_of_getElem? (i := 126) (by decide +kernel))) (by decide +kernel)
theorem ux_57 : Cond.lays RX5 "LogRiver$LawReader" "faultPlace" "I" ∈ kt_ := kt_m (kt_t1 _ (List.mem_of_getElem? (i := 128) (by decide +kernel))) (by decide +kernel)
theorem ux_58 : Cond.instantiable RX5 5 ∈ kt_ := kt_m (kt_t1 _ (List.mem_of_getElem? (i := 82) (by decide +kernel))) (by decide +kernel)
theorem ux_59 : Cond.initialized RX5 ∈ kt_ := kt_m (kt_t1 _ (List.mem_of_getElem? (i := 6) (by decide +kernel))) (by decide +kernel)
theorem ux_60 : Cond.laysFinal RX6 "LogRiver$Log" "number" "I" ∈ kt_ := kt_m (kt_t2 _ (List.mem_of_getElem? (i := 196) (by decide +kernel))) (by decide +kernel)
theorem ux_61 : Cond.laysFinal RX6 "LogRiver$Log" "mark" "I" ∈ kt_ := kt_m (kt_t2 _ (List.mem_of_getElem? (i := 198) (by decide +kernel))) (by decide +kernel)
theorem ux_62 : Cond.laysFinal RX6 "LogRiver$Log" "size" "I" ∈ kt_ := kt_m (kt_t2 _ (List.mem_of_getElem? (i := 200) (by decide +kernel))) (by decide +kernel)
theorem ux_63 : Cond.laysFinal RX6 "LogRiver$Log" "stump" "I" ∈ kt_ := kt_m (kt_t2 _ (List.mem_of_getElem? (i := 202) (by decide +kernel))) (by decide +kernel)
theorem ux_64 : Cond.lays RX6 "LogRiver$Log" "place" "I" ∈ kt_ := kt_m (kt_t2 _ (List.mem_of_getElem? (i := 204) (by decide +kernel))) (by decide +kernel)
theorem ux_65 : Cond.lays RX6 "LogRiver$Log" "reach" "I" ∈ kt_ := kt_m (kt_t2 _ (List.mem_of_getElem? (i := 206) (by decide +kernel))) (by decide +kernel)
theorem ux_66 : Cond.lays RX6 "LogRiver$Log" "cell" "I" ∈ kt_ := kt_m (kt_t2 _ (List.mem_of_getElem? (i := 208) (by decide +kernel))) (by decide +kernel)
theorem ux_67 : Cond.lays RX6 "LogRiver$Log" "age" "I" ∈ kt_ := kt_m (kt_t2 _ (List.mem_of_getElem? (i := 210) (by decide +kernel))) (by decide +kernel)
theorem ux_68 : Cond.lays RX6 "LogRiver$Log" "firstBoard" "I" ∈ kt_ := kt_m (kt_t2 _ (List.mem_of_getElem? (i := 212) (by decide +kernel))) (by decide +kernel)
theorem ux_69 : Cond.instantiable RX6 9 ∈ kt_ := kt_m (kt_t2 _ (List.mem_of_getElem? (i := 165) (by decide +kernel))) (by decide +kernel)
theorem ux_70 : Cond.initialized RX6 ∈ kt_ := kt_m (kt_t1 _ (List.mem_of_getElem? (i := 29) (by decide +kernel))) (by decide +kernel)
theorem ux_71 : Cond.laysFinal RX7 "LogRiver$Order" "mark" "I" ∈ kt_ := kt_m (kt_t5 _ (List.mem_of_getElem? (i := 51) (by decide +kernel))) (by decide +kernel)
theorem ux_72 : Cond.laysFinal RX7 "LogRiver$Order" "size" "I" ∈ kt_ := kt_m (kt_t5 _ (List.mem_of_getElem? (i := 53) (by decide +kernel))) (by decide +kernel)
theorem ux_73 : Cond.lays RX7 "LogRiver$Order" "wanted" "I" ∈ kt_ := kt_m (kt_t5 _ (List.mem_of_getElem? (i := 55) (by decide +kernel))) (by decide +kernel)
theorem ux_74 : Cond.instantiable RX7 3 ∈ kt_ := kt_m (kt_t5 _ (List.mem_of_getElem? (i := 40) (by decide +kernel))) (by decide +kernel)
theorem ux_75 : Cond.initialized RX7 ∈ kt_ := kt_m (kt_t1 _ (List.mem_of_getElem? (i := 30) (by decide +kernel))) (by decide +kernel)
theorem ux_76 : Cond.laysFinal RX8 "LogRiver$Reach" "number" "I" ∈ kt_ := kt_m (kt_t2 _ (List.mem_of_getElem? (i := 26) (by decide +kernel))) (by decide +kernel)
theorem ux_77 : Cond.laysFinal RX8 "LogRiver$Reach" "below" "LLogRiver$Reach;" ∈ kt_ := kt_m (kt_t2 _ (List.mem_of_getElem? (i := 28) (by decide +kernel))) (by decide +kernel)
theorem ux_78 : Cond.laysFinal RX8 "LogRiver$Reach" "jam" "I" ∈ kt_ := kt_m (kt_t2 _ (List.mem_of_getElem? (i := 30) (by decide +kernel))) (by decide +kernel)
theorem ux_79 : Cond.laysFinal RX8 "LogRiver$Reach" "cells" "Ljava/util/List;" ∈ kt_ := kt_m (kt_t2 _ (List.mem_of_getElem? (i := 32) (by decide +kernel))) (by decide +kernel)
theorem ux_80 : Cond.lays RX8 "LogRiver$Reach" "melt" "I" ∈ kt_ := kt_m (kt_t2 _ (List.mem_of_getElem? (i := 34) (by decide +kernel))) (by decide +kernel)
theorem ux_81 : Cond.lays RX8 "LogRiver$Reach" "dammed" "Z" ∈ kt_ := kt_m (kt_t2 _ (List.mem_of_getElem? (i := 36) (by decide +kernel))) (by decide +kernel)
theorem ux_82 : Cond.lays RX8 "LogRiver$Reach" "room" "I" ∈ kt_ := kt_m (kt_t2 _ (List.mem_of_getElem? (i := 38) (by decide +kernel))) (by decide +kernel)
theorem ux_83 : Cond.lays RX8 "LogRiver$Reach" "store" "I" ∈ kt_ := kt_m (kt_t2 _ (List.mem_of_getElem? (i := 40) (by decide +kernel))) (by decide +kernel)
theorem ux_84 : Cond.lays RX8 "LogRiver$Reach" "gate" "I" ∈ kt_ := kt_m (kt_t2 _ (List.mem_of_getElem? (i := 42) (by decide +kernel))) (by decide +kernel)
theorem ux_85 : Cond.lays RX8 "LogRiver$Reach" "flow" "I" ∈ kt_ := kt_m (kt_t2 _ (List.mem_of_getElem? (i := 44) (by decide +kernel))) (by decide +kernel)
theorem ux_86 : Cond.lays RX8 "LogRiver$Reach" "out" "I" ∈ kt_ := kt_m (kt_t2 _ (List.mem_of_getElem? (i := 46) (by decide +kernel))) (by decide +kernel)
theorem ux_87 : Cond.lays RX8 "LogRiver$Reach" "watched" "Z" ∈ kt_ := kt_m (kt_t2 _ (List.mem_of_getElem? (i := 48) (by decide +kernel))) (by decide +kernel)
theorem ux_88 : Cond.lays RX8 "LogRiver$Reach" "boom" "LLogRiver$Boom;" ∈ kt_ := kt_m (kt_t2 _ (List.mem_of_getElem? (i := 50) (by decide +kernel))) (by decide +kernel)
theorem ux_89 : Cond.instantiable RX8 13 ∈ kt_ := kt_m (kt_t1 _ (List.mem_of_getElem? (i := 236) (by decide +kernel))) (by decide +kernel)
theorem ux_90 : Cond.initialized RX8 ∈ kt_ := kt_m (kt_t1 _ (List.mem_of_getElem? (i := 12) (by decide +kernel))) (by decide +kernel)
theorem ux_91 : Cond.laysFinal RX9 "LogRiver$Tape" "bytes" "[I" ∈ kt_ := kt_m (kt_t1 _ (List.mem_of_getElem? (i := 75) (by decide +kernel))) (by decide +kernel)
theorem ux_92 : Cond.lays RX9 "LogRiver$Tape" "length" "I" ∈ kt_ := kt_m (kt_t1 _ (List.mem_of_getElem? (i := 77) (by decide +kernel))) (by decide +kernel)
theorem ux_93 : Cond.instantiable RX9 2 ∈ kt_ := kt_m (kt_t1 _ (List.mem_of_getElem? (i := 66) (by decide +kernel))) (by decide +kernel)
theorem ux_94 : Cond.initialized RX9 ∈ kt_ := kt_m (kt_t1 _ (List.mem_of_getElem? (i := 5) (by decide +kernel))) (by decide +kernel)
theorem ux_95 : Cond.laysFinal RX10 "LogRiver$Tokens" "tape" "LLogRiver$Tape;" ∈ kt_ := kt_m (kt_t1 _ (List.mem_of_getElem? (i := 100) (by decide +kernel))) (by decide +kernel)
theorem ux_96 : Cond.lays RX10 "LogRiver$Tokens" "length" "I" ∈ kt_ := kt_m (kt_t1 _ (List.mem_of_getElem? (i := 102) (by decide +kernel))) (by decide +kernel)
theorem ux_97 : Cond.lays RX10 "LogRiver$Tokens" "end" "I" ∈ kt_ := kt_m (kt_t1 _ (List.mem_of_getElem? (i := 104) (by decide +kernel))) (by decide +kernel)
theorem ux_98 : Cond.lays RX10 "LogRiver$Tokens" "start" "I" ∈ kt_ := kt_m (kt_t1 _ (List.mem_of_getElem? (i := 106) (by decide +kernel))) (by decide +kernel)
theorem ux_99 : Cond.lays RX10 "LogRiver$Tokens" "kind" "I" ∈ kt_ := kt_m (kt_t1 _ (List.mem_of_getElem? (i := 108) (by decide +kernel))) (by decide +kernel)
theorem ux_100 : Cond.instantiable RX10 5 ∈ kt_ := kt_m (kt_t1 _ (List.mem_of_getElem? (i := 88) (by decide +kernel))) (by decide +kernel)
theorem ux_101 : Cond.initialized RX10 ∈ kt_ := kt_m (kt_t1 _ (List.mem_of_getElem? (i := 7) (by decide +kernel))) (by decide +kernel)
theorem ux_102 : Cond.laysFinal RX11 "LogRiver" "reaches" "Ljava/util/List;" ∈ kt_ := kt_m (kt_t1 _ (List.mem_of_getElem? (i := 169) (by decide +kernel))) (by decide +kernel)
theorem ux_103 : Cond.laysFinal RX11 "LogRiver" "logs" "Ljava/util/List;" ∈ kt_ := kt_m (kt_t1 _ (List.mem_of_getElem? (i := 171) (by decide +kernel))) (by decide +kernel)
theorem ux_104 : Cond.laysFinal RX11 "LogRiver" "laws" "Ljava/util/List;" ∈ kt_ := kt_m (kt_t1 _ (List.mem_of_getElem? (i := 173) (by decide +kernel))) (by decide +kernel)
theorem ux_105 : Cond.laysFinal RX11 "LogRiver" "crews" "Ljava/util/List;" ∈ kt_ := kt_m (kt_t1 _ (List.mem_of_getElem? (i := 175) (by decide +kernel))) (by decide +kernel)
theorem ux_106 : Cond.laysFinal RX11 "LogRiver" "orders" "Ljava/util/List;" ∈ kt_ := kt_m (kt_t1 _ (List.mem_of_getElem? (i := 177) (by decide +kernel))) (by decide +kernel)
theorem ux_107 : Cond.laysFinal RX11 "LogRiver" "tape" "LLogRiver$Tape;" ∈ kt_ := kt_m (kt_t1 _ (List.mem_of_getElem? (i := 179) (by decide +kernel))) (by decide +kernel)
theorem ux_108 : Cond.laysFinal RX11 "LogRiver" "reader" "LLogRiver$LawReader;" ∈ kt_ := kt_m (kt_t1 _ (List.mem_of_getElem? (i := 181) (by decide +kernel))) (by decide +kernel)
theorem ux_109 : Cond.laysFinal RX11 "LogRiver" "judge" "LLogRiver$Judge;" ∈ kt_ := kt_m (kt_t1 _ (List.mem_of_getElem? (i := 183) (by decide +kernel))) (by decide +kernel)
theorem ux_110 : Cond.laysFinal RX11 "LogRiver" "accounts" "[J" ∈ kt_ := kt_m (kt_t1 _ (List.mem_of_getElem? (i := 185) (by decide +kernel))) (by decide +kernel)
theorem ux_111 : Cond.lays RX11 "LogRiver" "hour" "I" ∈ kt_ := kt_m (kt_t1 _ (List.mem_of_getElem? (i := 187) (by decide +kernel))) (by decide +kernel)
theorem ux_112 : Cond.lays RX11 "LogRiver" "boards" "I" ∈ kt_ := kt_m (kt_t1 _ (List.mem_of_getElem? (i := 189) (by decide +kernel))) (by decide +kernel)
theorem ux_113 : Cond.lays RX11 "LogRiver" "faultPlace" "I" ∈ kt_ := kt_m (kt_t1 _ (List.mem_of_getElem? (i := 191) (by decide +kernel))) (by decide +kernel)
theorem ux_114 : Cond.lays RX11 "LogRiver" "melted" "J" ∈ kt_ := kt_m (kt_t1 _ (List.mem_of_getElem? (i := 193) (by decide +kernel))) (by decide +kernel)
theorem ux_115 : Cond.lays RX11 "LogRiver" "wentToSea" "J" ∈ kt_ := kt_m (kt_t1 _ (List.mem_of_getElem? (i := 195) (by decide +kernel))) (by decide +kernel)
theorem ux_116 : Cond.instantiable RX11 14 ∈ kt_ := kt_m (kt_t1 _ (List.mem_of_getElem? (i := 32) (by decide +kernel))) (by decide +kernel)
theorem ux_117 : Cond.initialized RX11 ∈ kt_ := kt_m (kt_t1 _ (List.mem_of_getElem? (i := 1) (by decide +kernel))) (by decide +kernel)
theorem kx_inJx4a65c : ∀ w ∈ u_ws RJx4a65c TJx4a65c 3, w ∈ kt_ := by
  show ∀ w ∈ [u_lay RJx4a65c TJx4a65c 0, u_lay RJx4a65c TJx4a65c 1, u_lay RJx4a65c TJx4a65c 2], w ∈ kt_
  exact List.forall_mem_cons.mpr ⟨ux_21, List.forall_mem_cons.mpr ⟨ux_22, List.forall_mem_cons.mpr ⟨ux_23, fun _ h => absurd h List.not_mem_nil⟩⟩⟩
theorem kx_dfJx4a65c : ∀ j, j < 3 → defaultValue (tyJx4a65c j) = vp_V [.int 0, .null, .int 0] j := by
  intro j hj
  match j, hj with
  | 0, _ => rfl
  | 1, _ => rfl
  | 2, _ => rfl
  | j + 3, hj => exact absurd hj (by omega)
theorem kx_inX0 : ∀ w ∈ u_ws RX0 TX0 4, w ∈ kt_ := by
  show ∀ w ∈ [u_lay RX0 TX0 0, u_lay RX0 TX0 1, u_lay RX0 TX0 2, u_lay RX0 TX0 3], w ∈ kt_
  exact List.forall_mem_cons.mpr ⟨ux_26, List.forall_mem_cons.mpr ⟨ux_27, List.forall_mem_cons.mpr ⟨ux_28, List.forall_mem_cons.mpr ⟨ux_29, fun _ h => absurd h List.not_mem_nil⟩⟩⟩⟩
theorem kx_dfX0 : ∀ j, j < 4 → defaultValue (tyX0 j) = vp_V [.null, .null, .int 0, .int 0] j := by
  intro j hj
  match j, hj with
  | 0, _ => rfl
  | 1, _ => rfl
  | 2, _ => rfl
  | 3, _ => rfl
  | j + 4, hj => exact absurd hj (by omega)
theorem kx_inX1 : ∀ w ∈ u_ws RX1 TX1 4, w ∈ kt_ := by
  show ∀ w ∈ [u_lay RX1 TX1 0, u_lay RX1 TX1 1, u_lay RX1 TX1 2, u_lay RX1 TX1 3], w ∈ kt_
  exact List.forall_mem_cons.mpr ⟨ux_32, List.forall_mem_cons.mpr ⟨ux_33, List.forall_mem_cons.mpr ⟨ux_34, List.forall_mem_cons.mpr ⟨ux_35, fun _ h => absurd h List.not_mem_nil⟩⟩⟩⟩
theorem kx_dfX1 : ∀ j, j < 4 → defaultValue (tyX1 j) = vp_V [.int 0, .null, .int 0, .int 0] j := by
  intro j hj
  match j, hj with
  | 0, _ => rfl
  | 1, _ => rfl
  | 2, _ => rfl
  | 3, _ => rfl
  | j + 4, hj => exact absurd hj (by omega)
theorem kx_inX2 : ∀ w ∈ u_ws RX2 TX2 2, w ∈ kt_ := by
  show ∀ w ∈ [u_lay RX2 TX2 0, u_lay RX2 TX2 1], w ∈ kt_
  exact List.forall_mem_cons.mpr ⟨ux_38, List.forall_mem_cons.mpr ⟨ux_39, fun _ h => absurd h List.not_mem_nil⟩⟩
theorem kx_dfX2 : ∀ j, j < 2 → defaultValue (tyX2 j) = vp_V [.null, .int 0] j := by
  intro j hj
  match j, hj with
  | 0, _ => rfl
  | 1, _ => rfl
  | j + 2, hj => exact absurd hj (by omega)
theorem kx_inX3 : ∀ w ∈ u_ws RX3 TX3 5, w ∈ kt_ := by
  show ∀ w ∈ [u_lay RX3 TX3 0, u_lay RX3 TX3 1, u_lay RX3 TX3 2, u_lay RX3 TX3 3, u_lay RX3 TX3 4], w ∈ kt_
  exact List.forall_mem_cons.mpr ⟨ux_42, List.forall_mem_cons.mpr ⟨ux_43, List.forall_mem_cons.mpr ⟨ux_44, List.forall_mem_cons.mpr ⟨ux_45, List.forall_mem_cons.mpr ⟨ux_46, fun _ h => absurd h List.not_mem_nil⟩⟩⟩⟩⟩
theorem kx_dfX3 : ∀ j, j < 5 → defaultValue (tyX3 j) = vp_V [.null, .null, .int 0, .int 0, .long 0] j := by
  intro j hj
  match j, hj with
  | 0, _ => rfl
  | 1, _ => rfl
  | 2, _ => rfl
  | 3, _ => rfl
  | 4, _ => rfl
  | j + 5, hj => exact absurd hj (by omega)
theorem kx_inX4 : ∀ w ∈ u_ws RX4 TX4 2, w ∈ kt_ := by
  show ∀ w ∈ [u_lay RX4 TX4 0, u_lay RX4 TX4 1], w ∈ kt_
  exact List.forall_mem_cons.mpr ⟨ux_49, List.forall_mem_cons.mpr ⟨ux_50, fun _ h => absurd h List.not_mem_nil⟩⟩
theorem kx_dfX4 : ∀ j, j < 2 → defaultValue (tyX4 j) = vp_V [.int 0, .null] j := by
  intro j hj
  match j, hj with
  | 0, _ => rfl
  | 1, _ => rfl
  | j + 2, hj => exact absurd hj (by omega)
theorem kx_inX5 : ∀ w ∈ u_ws RX5 TX5 5, w ∈ kt_ := by
  show ∀ w ∈ [u_lay RX5 TX5 0, u_lay RX5 TX5 1, u_lay RX5 TX5 2, u_lay RX5 TX5 3, u_lay RX5 TX5 4], w ∈ kt_
  exact List.forall_mem_cons.mpr ⟨ux_53, List.forall_mem_cons.mpr ⟨ux_54, List.forall_mem_cons.mpr ⟨ux_55, List.forall_mem_cons.mpr ⟨ux_56, List.forall_mem_cons.mpr ⟨ux_57, fun _ h => absurd h List.not_mem_nil⟩⟩⟩⟩⟩
theorem kx_dfX5 : ∀ j, j < 5 → defaultValue (tyX5 j) = vp_V [.null, .null, .int 0, .int 0, .int 0] j := by
  intro j hj
  match j, hj with
  | 0, _ => rfl
  | 1, _ => rfl
  | 2, _ => rfl
  | 3, _ => rfl
  | 4, _ => rfl
  | j + 5, hj => exact absurd hj (by omega)
theorem kx_inX6 : ∀ w ∈ u_ws RX6 TX6 9, w ∈ kt_ := by
  show ∀ w ∈ [u_lay RX6 TX6 0, u_lay RX6 TX6 1, u_lay RX6 TX6 2, u_lay RX6 TX6 3, u_lay RX6 TX6 4, u_lay RX6 TX6 5, u_lay RX6 TX6 6, u_lay RX6 TX6 7, u_lay RX6 TX6 8], w ∈ kt_
  exact List.forall_mem_cons.mpr ⟨ux_60, List.forall_mem_cons.mpr ⟨ux_61, List.forall_mem_cons.mpr ⟨ux_62, List.forall_mem_cons.mpr ⟨ux_63, List.forall_mem_cons.mpr ⟨ux_64, List.forall_mem_cons.mpr ⟨ux_65, List.forall_mem_cons.mpr ⟨ux_66, List.forall_mem_cons.mpr ⟨ux_67, List.forall_mem_cons.mpr ⟨ux_68, fun _ h => absurd h List.not_mem_nil⟩⟩⟩⟩⟩⟩⟩⟩⟩
theorem kx_dfX6 : ∀ j, j < 9 → defaultValue (tyX6 j) = vp_V [.int 0, .int 0, .int 0, .int 0, .int 0, .int 0, .int 0, .int 0, .int 0] j := by
  intro j hj
  match j, hj with
  | 0, _ => rfl
  | 1, _ => rfl
  | 2, _ => rfl
  | 3, _ => rfl
  | 4, _ => rfl
  | 5, _ => rfl
  | 6, _ => rfl
  | 7, _ => rfl
  | 8, _ => rfl
  | j + 9, hj => exact absurd hj (by omega)
theorem kx_inX7 : ∀ w ∈ u_ws RX7 TX7 3, w ∈ kt_ := by
  show ∀ w ∈ [u_lay RX7 TX7 0, u_lay RX7 TX7 1, u_lay RX7 TX7 2], w ∈ kt_
  exact List.forall_mem_cons.mpr ⟨ux_71, List.forall_mem_cons.mpr ⟨ux_72, List.forall_mem_cons.mpr ⟨ux_73, fun _ h => absurd h List.not_mem_nil⟩⟩⟩
theorem kx_dfX7 : ∀ j, j < 3 → defaultValue (tyX7 j) = vp_V [.int 0, .int 0, .int 0] j := by
  intro j hj
  match j, hj with
  | 0, _ => rfl
  | 1, _ => rfl
  | 2, _ => rfl
  | j + 3, hj => exact absurd hj (by omega)
theorem kx_inX8 : ∀ w ∈ u_ws RX8 TX8 13, w ∈ kt_ := by
  show ∀ w ∈ [u_lay RX8 TX8 0, u_lay RX8 TX8 1, u_lay RX8 TX8 2, u_lay RX8 TX8 3, u_lay RX8 TX8 4, u_lay RX8 TX8 5, u_lay RX8 TX8 6, u_lay RX8 TX8 7, u_lay RX8 TX8 8, u_lay RX8 TX8 9, u_lay RX8 TX8 10, u_lay RX8 TX8 11, u_lay RX8 TX8 12], w ∈ kt_
  exact List.forall_mem_cons.mpr ⟨ux_76, List.forall_mem_cons.mpr ⟨ux_77, List.forall_mem_cons.mpr ⟨ux_78, List.forall_mem_cons.mpr ⟨ux_79, List.forall_mem_cons.mpr ⟨ux_80, List.forall_mem_cons.mpr ⟨ux_81, List.forall_mem_cons.mpr ⟨ux_82, List.forall_mem_cons.mpr ⟨ux_83, List.forall_mem_cons.mpr ⟨ux_84, List.forall_mem_cons.mpr ⟨ux_85, List.forall_mem_cons.mpr ⟨ux_86, List.forall_mem_cons.mpr ⟨ux_87, List.forall_mem_cons.mpr ⟨ux_88, fun _ h => absurd h List.not_mem_nil⟩⟩⟩⟩⟩⟩⟩⟩⟩⟩⟩⟩⟩
theorem kx_dfX8 : ∀ j, j < 13 → defaultValue (tyX8 j) = vp_V [.int 0, .null, .int 0, .null, .int 0, .int 0, .int 0, .int 0, .int 0, .int 0, .int 0, .int 0, .null] j := by
  intro j hj
  match j, hj with
  | 0, _ => rfl
  | 1, _ => rfl
  | 2, _ => rfl
  | 3, _ => rfl
  | 4, _ => rfl
  | 5, _ => rfl
  | 6, _ => rfl
  | 7, _ => rfl
  | 8, _ => rfl
  | 9, _ => rfl
  | 10, _ => rfl
  | 11, _ => rfl
  | 12, _ => rfl
  | j + 13, hj => exact absurd hj (by omega)
theorem kx_inX9 : ∀ w ∈ u_ws RX9 TX9 2, w ∈ kt_ := by
  show ∀ w ∈ [u_lay RX9 TX9 0, u_lay RX9 TX9 1], w ∈ kt_
  exact List.forall_mem_cons.mpr ⟨ux_91, List.forall_mem_cons.mpr ⟨ux_92, fun _ h => absurd h List.not_mem_nil⟩⟩
theorem kx_dfX9 : ∀ j, j < 2 → defaultValue (tyX9 j) = vp_V [.null, .int 0] j := by
  intro j hj
  match j, hj with
  | 0, _ => rfl
  | 1, _ => rfl
  | j + 2, hj => exact absurd hj (by omega)
theorem kx_inX10 : ∀ w ∈ u_ws RX10 TX10 5, w ∈ kt_ := by
  show ∀ w ∈ [u_lay RX10 TX10 0, u_lay RX10 TX10 1, u_lay RX10 TX10 2, u_lay RX10 TX10 3, u_lay RX10 TX10 4], w ∈ kt_
  exact List.forall_mem_cons.mpr ⟨ux_95, List.forall_mem_cons.mpr ⟨ux_96, List.forall_mem_cons.mpr ⟨ux_97, List.forall_mem_cons.mpr ⟨ux_98, List.forall_mem_cons.mpr ⟨ux_99, fun _ h => absurd h List.not_mem_nil⟩⟩⟩⟩⟩
theorem kx_dfX10 : ∀ j, j < 5 → defaultValue (tyX10 j) = vp_V [.null, .int 0, .int 0, .int 0, .int 0] j := by
  intro j hj
  match j, hj with
  | 0, _ => rfl
  | 1, _ => rfl
  | 2, _ => rfl
  | 3, _ => rfl
  | 4, _ => rfl
  | j + 5, hj => exact absurd hj (by omega)
theorem kx_inX11 : ∀ w ∈ u_ws RX11 TX11 14, w ∈ kt_ := by
  show ∀ w ∈ [u_lay RX11 TX11 0, u_lay RX11 TX11 1, u_lay RX11 TX11 2, u_lay RX11 TX11 3, u_lay RX11 TX11 4, u_lay RX11 TX11 5, u_lay RX11 TX11 6, u_lay RX11 TX11 7, u_lay RX11 TX11 8, u_lay RX11 TX11 9, u_lay RX11 TX11 10, u_lay RX11 TX11 11, u_lay RX11 TX11 12, u_lay RX11 TX11 13], w ∈ kt_
  exact List.forall_mem_cons.mpr ⟨ux_102, List.forall_mem_cons.mpr ⟨ux_103, List.forall_mem_cons.mpr ⟨ux_104, List.forall_mem_cons.mpr ⟨ux_105, List.forall_mem_cons.mpr ⟨ux_106, List.forall_mem_cons.mpr ⟨ux_107, List.forall_mem_cons.mpr ⟨ux_108, List.forall_mem_cons.mpr ⟨ux_109, List.forall_mem_cons.mpr ⟨ux_110, List.forall_mem_cons.mpr ⟨ux_111, List.forall_mem_cons.mpr ⟨ux_112, List.forall_mem_cons.mpr ⟨ux_113, List.forall_mem_cons.mpr ⟨ux_114, List.forall_mem_cons.mpr ⟨ux_115, fun _ h => absurd h List.not_mem_nil⟩⟩⟩⟩⟩⟩⟩⟩⟩⟩⟩⟩⟩⟩
theorem kx_dfX11 : ∀ j, j < 14 → defaultValue (tyX11 j) = vp_V [.null, .null, .null, .null, .null, .null, .null, .null, .null, .int 0, .int 0, .int 0, .long 0, .long 0] j := by
  intro j hj
  match j, hj with
  | 0, _ => rfl
  | 1, _ => rfl
  | 2, _ => rfl
  | 3, _ => rfl
  | 4, _ => rfl
  | 5, _ => rfl
  | 6, _ => rfl
  | 7, _ => rfl
  | 8, _ => rfl
  | 9, _ => rfl
  | 10, _ => rfl
  | 11, _ => rfl
  | 12, _ => rfl
  | 13, _ => rfl
  | j + 14, hj => exact absurd hj (by omega)
section
variable {p : Program} {l : Launch} {e : Env} {fr lo c0 : Nat} {s : State} {m : MethodId} {args : Array Value} {below : List Frame} {meth : Method} {c : Code} {H : Heap} {locs : List Loc} {Q : State → Prop}
variable {cc : ByteArray} {pc nL index : Nat} {ls : Array Slot} {rest : List Value} {G : kx_G} {σ : kx_S} {own : String}
theorem xg_Jx4a65c_modCount {ref : String} {a : Nat} (F : CallFix p m c cc nL s args kt_ own) (C : kx_X G c0 s H locs σ) (ha : xt σ a = 1) (hw : Cond.fieldLink own index ref "modCount" "I" ∈ kt_) (hsm : ∀ x, s.fieldFound? "java/util/AbstractList" "modCount" "I" = some x → s.fieldFound? ref "modCount" "I" = some x) (hdg : decode cc pc = .ok (.getfield index, 3)) (kk : kx_W p l e fr lo c0 s m args below meth c H locs σ Q (F0 m (pc + 3) ls (.int (xi σ 16 a) :: rest))) : kx_W p l e fr lo c0 s m args below meth c H locs σ Q (F0 m pc ls (.ref a :: rest)) :=
  kx_get (k := 0) (v := .int (xi σ 16 a)) F C (by rw [ha]; decide) (kx_e1 ha) kx_inJx4a65c rfl (by decide) hw hsm rfl hdg kk
theorem xp_Jx4a65c_modCount {ref : String} {a : Nat} {x : Int32} (F : CallFix p m c cc nL s args kt_ own) (C : kx_X G c0 s H locs σ) (ha : xt σ a = 1) (hw : Cond.fieldLink own index ref "modCount" "I" ∈ kt_) (hsm : ∀ x, s.fieldFound? "java/util/AbstractList" "modCount" "I" = some x → s.fieldFound? ref "modCount" "I" = some x) (hdg : decode cc pc = .ok (.putfield index, 3)) (kk : ∀ (H1 : Heap) (locs1 : List Loc), kx_X G c0 s H1 locs1 (xsi σ 16 a x) → kx_W p l e fr lo c0 s m args below meth c H1 locs1 (xsi σ 16 a x) Q (F0 m (pc + 3) ls rest)) : kx_W p l e fr lo c0 s m args below meth c H locs σ Q (F0 m pc ls (.int x :: .ref a :: rest)) :=
  kx_put (k := 0) (τ := xsi σ 16 a x) (ty := .int) (ty0 := tyJx4a65c) F C (by rw [ha]; decide) (kx_e1 ha) kx_inJx4a65c tyJx4a65c_ok nmJx4a65c rfl (by decide) hw hsm rfl (by decide +kernel) rfl rfl (Nat.le_of_ble_eq_true rfl) (fun b => by
    by_cases hb : b = a
    · rw [hb, va_up_self, kx_e1 (show xt (xsi σ 16 a x) a = 1 from ha)]
      have e9 : xi (xsi σ 16 a x) 16 a = x := va_up_self _ a x
      show _ = Sum.inr (0, _)
      rw [e9]
      rfl
    · rw [va_up_ne _ _ hb, kx_nsi hb]) (fun _ h => h) rfl rfl hdg kk
theorem xg_Jx4a65c_elementData {ref : String} {a : Nat} (F : CallFix p m c cc nL s args kt_ own) (C : kx_X G c0 s H locs σ) (ha : xt σ a = 1) (hw : Cond.fieldLink own index ref "elementData" "[Ljava/lang/Object;" ∈ kt_) (hsm : ∀ x, s.fieldFound? "java/util/ArrayList" "elementData" "[Ljava/lang/Object;" = some x → s.fieldFound? ref "elementData" "[Ljava/lang/Object;" = some x) (hdg : decode cc pc = .ok (.getfield index, 3)) (kk : kx_W p l e fr lo c0 s m args below meth c H locs σ Q (F0 m (pc + 3) ls (va_rf (xr σ 17 a) :: rest))) : kx_W p l e fr lo c0 s m args below meth c H locs σ Q (F0 m pc ls (.ref a :: rest)) :=
  kx_get (k := 1) (v := va_rf (xr σ 17 a)) F C (by rw [ha]; decide) (kx_e1 ha) kx_inJx4a65c rfl (by decide) hw hsm rfl hdg kk
theorem xp_Jx4a65c_elementData {ref : String} {a : Nat} {x : Option Nat} (F : CallFix p m c cc nL s args kt_ own) (C : kx_X G c0 s H locs σ) (ha : xt σ a = 1) (hw : Cond.fieldLink own index ref "elementData" "[Ljava/lang/Object;" ∈ kt_) (hsm : ∀ x, s.fieldFound? "java/util/ArrayList" "elementData" "[Ljava/lang/Object;" = some x → s.fieldFound? ref "elementData" "[Ljava/lang/Object;" = some x) (hdg : decode cc pc = .ok (.putfield index, 3)) (kk : ∀ (H1 : Heap) (locs1 : List Loc), kx_X G c0 s H1 locs1 (xsr σ 17 a x) → kx_W p l e fr lo c0 s m args below meth c H1 locs1 (xsr σ 17 a x) Q (F0 m (pc + 3) ls rest)) : kx_W p l e fr lo c0 s m args below meth c H locs σ Q (F0 m pc ls (va_rf x :: .ref a :: rest)) :=
  kx_put (k := 1) (τ := xsr σ 17 a x) (ty := .array (.object "java/lang/Object")) (ty0 := tyJx4a65c) F C (by rw [ha]; decide) (kx_e1 ha) kx_inJx4a65c tyJx4a65c_ok nmJx4a65c rfl (by decide) hw hsm rfl (by decide +kernel) (by cases x <;> rfl) (by cases x <;> rfl) (Nat.le_of_ble_eq_true rfl) (fun b => by
    by_cases hb : b = a
    · rw [hb, va_up_self, kx_e1 (show xt (xsr σ 17 a x) a = 1 from ha)]
      have e9 : xr (xsr σ 17 a x) 17 a = x := va_up_self _ a x
      show _ = Sum.inr (0, _)
      rw [e9]
      rfl
    · rw [va_up_ne _ _ hb, kx_nsr hb]) (fun _ h => h) rfl rfl hdg kk
theorem xg_Jx4a65c_size {ref : String} {a : Nat} (F : CallFix p m c cc nL s args kt_ own) (C : kx_X G c0 s H locs σ) (ha : xt σ a = 1) (hw : Cond.fieldLink own index ref "size" "I" ∈ kt_) (hsm : ∀ x, s.fieldFound? "java/util/ArrayList" "size" "I" = some x → s.fieldFound? ref "size" "I" = some x) (hdg : decode cc pc = .ok (.getfield index, 3)) (kk : kx_W p l e fr lo c0 s m args below meth c H locs σ Q (F0 m (pc + 3) ls (.int (xi σ 18 a) :: rest))) : kx_W p l e fr lo c0 s m args below meth c H locs σ Q (F0 m pc ls (.ref a :: rest)) :=
  kx_get (k := 2) (v := .int (xi σ 18 a)) F C (by rw [ha]; decide) (kx_e1 ha) kx_inJx4a65c rfl (by decide) hw hsm rfl hdg kk
theorem xp_Jx4a65c_size {ref : String} {a : Nat} {x : Int32} (F : CallFix p m c cc nL s args kt_ own) (C : kx_X G c0 s H locs σ) (ha : xt σ a = 1) (hw : Cond.fieldLink own index ref "size" "I" ∈ kt_) (hsm : ∀ x, s.fieldFound? "java/util/ArrayList" "size" "I" = some x → s.fieldFound? ref "size" "I" = some x) (hdg : decode cc pc = .ok (.putfield index, 3)) (kk : ∀ (H1 : Heap) (locs1 : List Loc), kx_X G c0 s H1 locs1 (xsi σ 18 a x) → kx_W p l e fr lo c0 s m args below meth c H1 locs1 (xsi σ 18 a x) Q (F0 m (pc + 3) ls rest)) : kx_W p l e fr lo c0 s m args below meth c H locs σ Q (F0 m pc ls (.int x :: .ref a :: rest)) :=
  kx_put (k := 2) (τ := xsi σ 18 a x) (ty := .int) (ty0 := tyJx4a65c) F C (by rw [ha]; decide) (kx_e1 ha) kx_inJx4a65c tyJx4a65c_ok nmJx4a65c rfl (by decide) hw hsm rfl (by decide +kernel) rfl rfl (Nat.le_of_ble_eq_true rfl) (fun b => by
    by_cases hb : b = a
    · rw [hb, va_up_self, kx_e1 (show xt (xsi σ 18 a x) a = 1 from ha)]
      have e9 : xi (xsi σ 18 a x) 18 a = x := va_up_self _ a x
      show _ = Sum.inr (0, _)
      rw [e9]
      rfl
    · rw [va_up_ne _ _ hb, kx_nsi hb]) (fun _ h => h) rfl rfl hdg kk
theorem xw_Jx4a65c (F : CallFix p m c cc nL s args kt_ own) (C : kx_X G c0 s H locs σ) (hN : xc σ < kx_N) (hcl : Cond.classLink own index RJx4a65c ∈ kt_) (hdg : decode cc pc = .ok (.new index, 3)) (kk : ∀ (q : Nat) (H1 : Heap), xt σ q = 0 → q ≠ kx_z G → kx_X G c0 s H1 locs (xnew σ q 1) → kx_W p l e fr lo c0 s m args below meth c H1 locs (xnew σ q 1) Q (F0 m (pc + 3) ls (.ref q :: rest))) : kx_W p l e fr lo c0 s m args below meth c H locs σ Q (F0 m pc ls rest) :=
  kx_new (ci := 0) (fs := [.int 0, .null, .int 0]) (tag := 1) F C hN kx_inJx4a65c tyJx4a65c_ok hcl ux_24 ux_25 rfl kx_dfJx4a65c (by decide) (fun q => by
    rw [kx_e1 (show xt (xnew σ q 1) q = 1 from va_up_self _ _ _)]
    simp only [xi, xr, xl, xnew, va_up_self, va_rf]) hdg kk
theorem xg_X0_heap {ref : String} {a : Nat} (F : CallFix p m c cc nL s args kt_ own) (C : kx_X G c0 s H locs σ) (ha : xt σ a = 2) (hw : Cond.fieldLink own index ref "heap" "Ljava/util/List;" ∈ kt_) (hsm : ∀ x, s.fieldFound? "LogRiver$Boom" "heap" "Ljava/util/List;" = some x → s.fieldFound? ref "heap" "Ljava/util/List;" = some x) (hdg : decode cc pc = .ok (.getfield index, 3)) (kk : kx_W p l e fr lo c0 s m args below meth c H locs σ Q (F0 m (pc + 3) ls (va_rf (xr σ 32 a) :: rest))) : kx_W p l e fr lo c0 s m args below meth c H locs σ Q (F0 m pc ls (.ref a :: rest)) :=
  kx_get (k := 0) (v := va_rf (xr σ 32 a)) F C (by rw [ha]; decide) (kx_e2 ha) kx_inX0 rfl (by decide) hw hsm rfl hdg kk
theorem xp_X0_heap {ref : String} {a : Nat} {x : Option Nat} (F : CallFix p m c cc nL s args kt_ own) (C : kx_X G c0 s H locs σ) (ha : xt σ a = 2) (hw : Cond.fieldLink own index ref "heap" "Ljava/util/List;" ∈ kt_) (hsm : ∀ x, s.fieldFound? "LogRiver$Boom" "heap" "Ljava/util/List;" = some x → s.fieldFound? ref "heap" "Ljava/util/List;" = some x) (hini : meth.name = "<init>") (hdecl : "LogRiver$Boom" = own) (hdg : decode cc pc = .ok (.putfield index, 3)) (kk : ∀ (H1 : Heap) (locs1 : List Loc), kx_X G c0 s H1 locs1 (xsr σ 32 a x) → kx_W p l e fr lo c0 s m args below meth c H1 locs1 (xsr σ 32 a x) Q (F0 m (pc + 3) ls rest)) : kx_W p l e fr lo c0 s m args below meth c H locs σ Q (F0 m pc ls (va_rf x :: .ref a :: rest)) :=
  kx_putF (k := 0) (τ := xsr σ 32 a x) (ty := .object "java/util/List") (ty0 := tyX0) F C (by rw [ha]; decide) (kx_e2 ha) kx_inX0 tyX0_ok nmX0 rfl (by decide) hw hsm rfl hini hdecl (by decide +kernel) (by cases x <;> rfl) (by cases x <;> rfl) (Nat.le_of_ble_eq_true rfl) (fun b => by
    by_cases hb : b = a
    · rw [hb, va_up_self, kx_e2 (show xt (xsr σ 32 a x) a = 2 from ha)]
      have e9 : xr (xsr σ 32 a x) 32 a = x := va_up_self _ a x
      show _ = Sum.inr (1, _)
      rw [e9]
      rfl
    · rw [va_up_ne _ _ hb, kx_nsr hb]) (fun _ h => h) rfl rfl hdg kk
theorem xg_X0_orders {ref : String} {a : Nat} (F : CallFix p m c cc nL s args kt_ own) (C : kx_X G c0 s H locs σ) (ha : xt σ a = 2) (hw : Cond.fieldLink own index ref "orders" "Ljava/util/List;" ∈ kt_) (hsm : ∀ x, s.fieldFound? "LogRiver$Boom" "orders" "Ljava/util/List;" = some x → s.fieldFound? ref "orders" "Ljava/util/List;" = some x) (hdg : decode cc pc = .ok (.getfield index, 3)) (kk : kx_W p l e fr lo c0 s m args below meth c H locs σ Q (F0 m (pc + 3) ls (va_rf (xr σ 33 a) :: rest))) : kx_W p l e fr lo c0 s m args below meth c H locs σ Q (F0 m pc ls (.ref a :: rest)) :=
  kx_get (k := 1) (v := va_rf (xr σ 33 a)) F C (by rw [ha]; decide) (kx_e2 ha) kx_inX0 rfl (by decide) hw hsm rfl hdg kk
theorem xp_X0_orders {ref : String} {a : Nat} {x : Option Nat} (F : CallFix p m c cc nL s args kt_ own) (C : kx_X G c0 s H locs σ) (ha : xt σ a = 2) (hw : Cond.fieldLink own index ref "orders" "Ljava/util/List;" ∈ kt_) (hsm : ∀ x, s.fieldFound? "LogRiver$Boom" "orders" "Ljava/util/List;" = some x → s.fieldFound? ref "orders" "Ljava/util/List;" = some x) (hini : meth.name = "<init>") (hdecl : "LogRiver$Boom" = own) (hdg : decode cc pc = .ok (.putfield index, 3)) (kk : ∀ (H1 : Heap) (locs1 : List Loc), kx_X G c0 s H1 locs1 (xsr σ 33 a x) → kx_W p l e fr lo c0 s m args below meth c H1 locs1 (xsr σ 33 a x) Q (F0 m (pc + 3) ls rest)) : kx_W p l e fr lo c0 s m args below meth c H locs σ Q (F0 m pc ls (va_rf x :: .ref a :: rest)) :=
  kx_putF (k := 1) (τ := xsr σ 33 a x) (ty := .object "java/util/List") (ty0 := tyX0) F C (by rw [ha]; decide) (kx_e2 ha) kx_inX0 tyX0_ok nmX0 rfl (by decide) hw hsm rfl hini hdecl (by decide +kernel) (by cases x <;> rfl) (by cases x <;> rfl) (Nat.le_of_ble_eq_true rfl) (fun b => by
    by_cases hb : b = a
    · rw [hb, va_up_self, kx_e2 (show xt (xsr σ 33 a x) a = 2 from ha)]
      have e9 : xr (xsr σ 33 a x) 33 a = x := va_up_self _ a x
      show _ = Sum.inr (1, _)
      rw [e9]
      rfl
    · rw [va_up_ne _ _ hb, kx_nsr hb]) (fun _ h => h) rfl rfl hdg kk
theorem xg_X0_marks {ref : String} {a : Nat} (F : CallFix p m c cc nL s args kt_ own) (C : kx_X G c0 s H locs σ) (ha : xt σ a = 2) (hw : Cond.fieldLink own index ref "marks" "I" ∈ kt_) (hsm : ∀ x, s.fieldFound? "LogRiver$Boom" "marks" "I" = some x → s.fieldFound? ref "marks" "I" = some x) (hdg : decode cc pc = .ok (.getfield index, 3)) (kk : kx_W p l e fr lo c0 s m args below meth c H locs σ Q (F0 m (pc + 3) ls (.int (xi σ 34 a) :: rest))) : kx_W p l e fr lo c0 s m args below meth c H locs σ Q (F0 m pc ls (.ref a :: rest)) :=
  kx_get (k := 2) (v := .int (xi σ 34 a)) F C (by rw [ha]; decide) (kx_e2 ha) kx_inX0 rfl (by decide) hw hsm rfl hdg kk
theorem xp_X0_marks {ref : String} {a : Nat} {x : Int32} (F : CallFix p m c cc nL s args kt_ own) (C : kx_X G c0 s H locs σ) (ha : xt σ a = 2) (hw : Cond.fieldLink own index ref "marks" "I" ∈ kt_) (hsm : ∀ x, s.fieldFound? "LogRiver$Boom" "marks" "I" = some x → s.fieldFound? ref "marks" "I" = some x) (hdg : decode cc pc = .ok (.putfield index, 3)) (kk : ∀ (H1 : Heap) (locs1 : List Loc), kx_X G c0 s H1 locs1 (xsi σ 34 a x) → kx_W p l e fr lo c0 s m args below meth c H1 locs1 (xsi σ 34 a x) Q (F0 m (pc + 3) ls rest)) : kx_W p l e fr lo c0 s m args below meth c H locs σ Q (F0 m pc ls (.int x :: .ref a :: rest)) :=
  kx_put (k := 2) (τ := xsi σ 34 a x) (ty := .int) (ty0 := tyX0) F C (by rw [ha]; decide) (kx_e2 ha) kx_inX0 tyX0_ok nmX0 rfl (by decide) hw hsm rfl (by decide +kernel) rfl rfl (Nat.le_of_ble_eq_true rfl) (fun b => by
    by_cases hb : b = a
    · rw [hb, va_up_self, kx_e2 (show xt (xsi σ 34 a x) a = 2 from ha)]
      have e9 : xi (xsi σ 34 a x) 34 a = x := va_up_self _ a x
      show _ = Sum.inr (1, _)
      rw [e9]
      rfl
    · rw [va_up_ne _ _ hb, kx_nsi hb]) (fun _ h => h) rfl rfl hdg kk
theorem xg_X0_room {ref : String} {a : Nat} (F : CallFix p m c cc nL s args kt_ own) (C : kx_X G c0 s H locs σ) (ha : xt σ a = 2) (hw : Cond.fieldLink own index ref "room" "I" ∈ kt_) (hsm : ∀ x, s.fieldFound? "LogRiver$Boom" "room" "I" = some x → s.fieldFound? ref "room" "I" = some x) (hdg : decode cc pc = .ok (.getfield index, 3)) (kk : kx_W p l e fr lo c0 s m args below meth c H locs σ Q (F0 m (pc + 3) ls (.int (xi σ 35 a) :: rest))) : kx_W p l e fr lo c0 s m args below meth c H locs σ Q (F0 m pc ls (.ref a :: rest)) :=
  kx_get (k := 3) (v := .int (xi σ 35 a)) F C (by rw [ha]; decide) (kx_e2 ha) kx_inX0 rfl (by decide) hw hsm rfl hdg kk
theorem xp_X0_room {ref : String} {a : Nat} {x : Int32} (F : CallFix p m c cc nL s args kt_ own) (C : kx_X G c0 s H locs σ) (ha : xt σ a = 2) (hw : Cond.fieldLink own index ref "room" "I" ∈ kt_) (hsm : ∀ x, s.fieldFound? "LogRiver$Boom" "room" "I" = some x → s.fieldFound? ref "room" "I" = some x) (hdg : decode cc pc = .ok (.putfield index, 3)) (kk : ∀ (H1 : Heap) (locs1 : List Loc), kx_X G c0 s H1 locs1 (xsi σ 35 a x) → kx_W p l e fr lo c0 s m args below meth c H1 locs1 (xsi σ 35 a x) Q (F0 m (pc + 3) ls rest)) : kx_W p l e fr lo c0 s m args below meth c H locs σ Q (F0 m pc ls (.int x :: .ref a :: rest)) :=
  kx_put (k := 3) (τ := xsi σ 35 a x) (ty := .int) (ty0 := tyX0) F C (by rw [ha]; decide) (kx_e2 ha) kx_inX0 tyX0_ok nmX0 rfl (by decide) hw hsm rfl (by decide +kernel) rfl rfl (Nat.le_of_ble_eq_true rfl) (fun b => by
    by_cases hb : b = a
    · rw [hb, va_up_self, kx_e2 (show xt (xsi σ 35 a x) a = 2 from ha)]
      have e9 : xi (xsi σ 35 a x) 35 a = x := va_up_self _ a x
      show _ = Sum.inr (1, _)
      rw [e9]
      rfl
    · rw [va_up_ne _ _ hb, kx_nsi hb]) (fun _ h => h) rfl rfl hdg kk
theorem xw_X0 (F : CallFix p m c cc nL s args kt_ own) (C : kx_X G c0 s H locs σ) (hN : xc σ < kx_N) (hcl : Cond.classLink own index RX0 ∈ kt_) (hdg : decode cc pc = .ok (.new index, 3)) (kk : ∀ (q : Nat) (H1 : Heap), xt σ q = 0 → q ≠ kx_z G → kx_X G c0 s H1 locs (xnew σ q 2) → kx_W p l e fr lo c0 s m args below meth c H1 locs (xnew σ q 2) Q (F0 m (pc + 3) ls (.ref q :: rest))) : kx_W p l e fr lo c0 s m args below meth c H locs σ Q (F0 m pc ls rest) :=
  kx_new (ci := 1) (fs := [.null, .null, .int 0, .int 0]) (tag := 2) F C hN kx_inX0 tyX0_ok hcl ux_30 ux_31 rfl kx_dfX0 (by decide) (fun q => by
    rw [kx_e2 (show xt (xnew σ q 2) q = 2 from va_up_self _ _ _)]
    simp only [xi, xr, xl, xnew, va_up_self, va_rf]) hdg kk
theorem xg_X1_carry {ref : String} {a : Nat} (F : CallFix p m c cc nL s args kt_ own) (C : kx_X G c0 s H locs σ) (ha : xt σ a = 3) (hw : Cond.fieldLink own index ref "carry" "I" ∈ kt_) (hsm : ∀ x, s.fieldFound? "LogRiver$Cell" "carry" "I" = some x → s.fieldFound? ref "carry" "I" = some x) (hdg : decode cc pc = .ok (.getfield index, 3)) (kk : kx_W p l e fr lo c0 s m args below meth c H locs σ Q (F0 m (pc + 3) ls (.int (xi σ 48 a) :: rest))) : kx_W p l e fr lo c0 s m args below meth c H locs σ Q (F0 m pc ls (.ref a :: rest)) :=
  kx_get (k := 0) (v := .int (xi σ 48 a)) F C (by rw [ha]; decide) (kx_e3 ha) kx_inX1 rfl (by decide) hw hsm rfl hdg kk
theorem xp_X1_carry {ref : String} {a : Nat} {x : Int32} (F : CallFix p m c cc nL s args kt_ own) (C : kx_X G c0 s H locs σ) (ha : xt σ a = 3) (hw : Cond.fieldLink own index ref "carry" "I" ∈ kt_) (hsm : ∀ x, s.fieldFound? "LogRiver$Cell" "carry" "I" = some x → s.fieldFound? ref "carry" "I" = some x) (hini : meth.name = "<init>") (hdecl : "LogRiver$Cell" = own) (hdg : decode cc pc = .ok (.putfield index, 3)) (kk : ∀ (H1 : Heap) (locs1 : List Loc), kx_X G c0 s H1 locs1 (xsi σ 48 a x) → kx_W p l e fr lo c0 s m args below meth c H1 locs1 (xsi σ 48 a x) Q (F0 m (pc + 3) ls rest)) : kx_W p l e fr lo c0 s m args below meth c H locs σ Q (F0 m pc ls (.int x :: .ref a :: rest)) :=
  kx_putF (k := 0) (τ := xsi σ 48 a x) (ty := .int) (ty0 := tyX1) F C (by rw [ha]; decide) (kx_e3 ha) kx_inX1 tyX1_ok nmX1 rfl (by decide) hw hsm rfl hini hdecl (by decide +kernel) rfl rfl (Nat.le_of_ble_eq_true rfl) (fun b => by
    by_cases hb : b = a
    · rw [hb, va_up_self, kx_e3 (show xt (xsi σ 48 a x) a = 3 from ha)]
      have e9 : xi (xsi σ 48 a x) 48 a = x := va_up_self _ a x
      show _ = Sum.inr (2, _)
      rw [e9]
      rfl
    · rw [va_up_ne _ _ hb, kx_nsi hb]) (fun _ h => h) rfl rfl hdg kk
theorem xg_X1_logs {ref : String} {a : Nat} (F : CallFix p m c cc nL s args kt_ own) (C : kx_X G c0 s H locs σ) (ha : xt σ a = 3) (hw : Cond.fieldLink own index ref "logs" "Ljava/util/List;" ∈ kt_) (hsm : ∀ x, s.fieldFound? "LogRiver$Cell" "logs" "Ljava/util/List;" = some x → s.fieldFound? ref "logs" "Ljava/util/List;" = some x) (hdg : decode cc pc = .ok (.getfield index, 3)) (kk : kx_W p l e fr lo c0 s m args below meth c H locs σ Q (F0 m (pc + 3) ls (va_rf (xr σ 49 a) :: rest))) : kx_W p l e fr lo c0 s m args below meth c H locs σ Q (F0 m pc ls (.ref a :: rest)) :=
  kx_get (k := 1) (v := va_rf (xr σ 49 a)) F C (by rw [ha]; decide) (kx_e3 ha) kx_inX1 rfl (by decide) hw hsm rfl hdg kk
theorem xp_X1_logs {ref : String} {a : Nat} {x : Option Nat} (F : CallFix p m c cc nL s args kt_ own) (C : kx_X G c0 s H locs σ) (ha : xt σ a = 3) (hw : Cond.fieldLink own index ref "logs" "Ljava/util/List;" ∈ kt_) (hsm : ∀ x, s.fieldFound? "LogRiver$Cell" "logs" "Ljava/util/List;" = some x → s.fieldFound? ref "logs" "Ljava/util/List;" = some x) (hini : meth.name = "<init>") (hdecl : "LogRiver$Cell" = own) (hdg : decode cc pc = .ok (.putfield index, 3)) (kk : ∀ (H1 : Heap) (locs1 : List Loc), kx_X G c0 s H1 locs1 (xsr σ 49 a x) → kx_W p l e fr lo c0 s m args below meth c H1 locs1 (xsr σ 49 a x) Q (F0 m (pc + 3) ls rest)) : kx_W p l e fr lo c0 s m args below meth c H locs σ Q (F0 m pc ls (va_rf x :: .ref a :: rest)) :=
  kx_putF (k := 1) (τ := xsr σ 49 a x) (ty := .object "java/util/List") (ty0 := tyX1) F C (by rw [ha]; decide) (kx_e3 ha) kx_inX1 tyX1_ok nmX1 rfl (by decide) hw hsm rfl hini hdecl (by decide +kernel) (by cases x <;> rfl) (by cases x <;> rfl) (Nat.le_of_ble_eq_true rfl) (fun b => by
    by_cases hb : b = a
    · rw [hb, va_up_self, kx_e3 (show xt (xsr σ 49 a x) a = 3 from ha)]
      have e9 : xr (xsr σ 49 a x) 49 a = x := va_up_self _ a x
      show _ = Sum.inr (2, _)
      rw [e9]
      rfl
    · rw [va_up_ne _ _ hb, kx_nsr hb]) (fun _ h => h) rfl rfl hdg kk
theorem xg_X1_jammed {ref : String} {a : Nat} (F : CallFix p m c cc nL s args kt_ own) (C : kx_X G c0 s H locs σ) (ha : xt σ a = 3) (hw : Cond.fieldLink own index ref "jammed" "Z" ∈ kt_) (hsm : ∀ x, s.fieldFound? "LogRiver$Cell" "jammed" "Z" = some x → s.fieldFound? ref "jammed" "Z" = some x) (hdg : decode cc pc = .ok (.getfield index, 3)) (kk : kx_W p l e fr lo c0 s m args below meth c H locs σ Q (F0 m (pc + 3) ls (.int (xi σ 50 a) :: rest))) : kx_W p l e fr lo c0 s m args below meth c H locs σ Q (F0 m pc ls (.ref a :: rest)) :=
  kx_get (k := 2) (v := .int (xi σ 50 a)) F C (by rw [ha]; decide) (kx_e3 ha) kx_inX1 rfl (by decide) hw hsm rfl hdg kk
theorem xp_X1_jammed {ref : String} {a : Nat} {x : Int32} (F : CallFix p m c cc nL s args kt_ own) (C : kx_X G c0 s H locs σ) (ha : xt σ a = 3) (hz : narrow .boolean (.int x) = .int x ∧ fits .boolean (.int x) = true) (hw : Cond.fieldLink own index ref "jammed" "Z" ∈ kt_) (hsm : ∀ x, s.fieldFound? "LogRiver$Cell" "jammed" "Z" = some x → s.fieldFound? ref "jammed" "Z" = some x) (hdg : decode cc pc = .ok (.putfield index, 3)) (kk : ∀ (H1 : Heap) (locs1 : List Loc), kx_X G c0 s H1 locs1 (xsi σ 50 a x) → kx_W p l e fr lo c0 s m args below meth c H1 locs1 (xsi σ 50 a x) Q (F0 m (pc + 3) ls rest)) : kx_W p l e fr lo c0 s m args below meth c H locs σ Q (F0 m pc ls (.int x :: .ref a :: rest)) :=
  kx_put (k := 2) (τ := xsi σ 50 a x) (ty := .boolean) (ty0 := tyX1) F C (by rw [ha]; decide) (kx_e3 ha) kx_inX1 tyX1_ok nmX1 rfl (by decide) hw hsm rfl (by decide +kernel) hz.1 hz.2 (Nat.le_of_ble_eq_true rfl) (fun b => by
    by_cases hb : b = a
    · rw [hb, va_up_self, kx_e3 (show xt (xsi σ 50 a x) a = 3 from ha)]
      have e9 : xi (xsi σ 50 a x) 50 a = x := va_up_self _ a x
      show _ = Sum.inr (2, _)
      rw [e9]
      rfl
    · rw [va_up_ne _ _ hb, kx_nsi hb]) (fun _ h => h) rfl rfl hdg kk
theorem xg_X1_known {ref : String} {a : Nat} (F : CallFix p m c cc nL s args kt_ own) (C : kx_X G c0 s H locs σ) (ha : xt σ a = 3) (hw : Cond.fieldLink own index ref "known" "Z" ∈ kt_) (hsm : ∀ x, s.fieldFound? "LogRiver$Cell" "known" "Z" = some x → s.fieldFound? ref "known" "Z" = some x) (hdg : decode cc pc = .ok (.getfield index, 3)) (kk : kx_W p l e fr lo c0 s m args below meth c H locs σ Q (F0 m (pc + 3) ls (.int (xi σ 51 a) :: rest))) : kx_W p l e fr lo c0 s m args below meth c H locs σ Q (F0 m pc ls (.ref a :: rest)) :=
  kx_get (k := 3) (v := .int (xi σ 51 a)) F C (by rw [ha]; decide) (kx_e3 ha) kx_inX1 rfl (by decide) hw hsm rfl hdg kk
theorem xp_X1_known {ref : String} {a : Nat} {x : Int32} (F : CallFix p m c cc nL s args kt_ own) (C : kx_X G c0 s H locs σ) (ha : xt σ a = 3) (hz : narrow .boolean (.int x) = .int x ∧ fits .boolean (.int x) = true) (hw : Cond.fieldLink own index ref "known" "Z" ∈ kt_) (hsm : ∀ x, s.fieldFound? "LogRiver$Cell" "known" "Z" = some x → s.fieldFound? ref "known" "Z" = some x) (hdg : decode cc pc = .ok (.putfield index, 3)) (kk : ∀ (H1 : Heap) (locs1 : List Loc), kx_X G c0 s H1 locs1 (xsi σ 51 a x) → kx_W p l e fr lo c0 s m args below meth c H1 locs1 (xsi σ 51 a x) Q (F0 m (pc + 3) ls rest)) : kx_W p l e fr lo c0 s m args below meth c H locs σ Q (F0 m pc ls (.int x :: .ref a :: rest)) :=
  kx_put (k := 3) (τ := xsi σ 51 a x) (ty := .boolean) (ty0 := tyX1) F C (by rw [ha]; decide) (kx_e3 ha) kx_inX1 tyX1_ok nmX1 rfl (by decide) hw hsm rfl (by decide +kernel) hz.1 hz.2 (Nat.le_of_ble_eq_true rfl) (fun b => by
    by_cases hb : b = a
    · rw [hb, va_up_self, kx_e3 (show xt (xsi σ 51 a x) a = 3 from ha)]
      have e9 : xi (xsi σ 51 a x) 51 a = x := va_up_self _ a x
      show _ = Sum.inr (2, _)
      rw [e9]
      rfl
    · rw [va_up_ne _ _ hb, kx_nsi hb]) (fun _ h => h) rfl rfl hdg kk
theorem xw_X1 (F : CallFix p m c cc nL s args kt_ own) (C : kx_X G c0 s H locs σ) (hN : xc σ < kx_N) (hcl : Cond.classLink own index RX1 ∈ kt_) (hdg : decode cc pc = .ok (.new index, 3)) (kk : ∀ (q : Nat) (H1 : Heap), xt σ q = 0 → q ≠ kx_z G → kx_X G c0 s H1 locs (xnew σ q 3) → kx_W p l e fr lo c0 s m args below meth c H1 locs (xnew σ q 3) Q (F0 m (pc + 3) ls (.ref q :: rest))) : kx_W p l e fr lo c0 s m args below meth c H locs σ Q (F0 m pc ls rest) :=
  kx_new (ci := 2) (fs := [.int 0, .null, .int 0, .int 0]) (tag := 3) F C hN kx_inX1 tyX1_ok hcl ux_36 ux_37 rfl kx_dfX1 (by decide) (fun q => by
    rw [kx_e3 (show xt (xnew σ q 3) q = 3 from va_up_self _ _ _)]
    simp only [xi, xr, xl, xnew, va_up_self, va_rf]) hdg kk
theorem xg_X2_reach {ref : String} {a : Nat} (F : CallFix p m c cc nL s args kt_ own) (C : kx_X G c0 s H locs σ) (ha : xt σ a = 4) (hw : Cond.fieldLink own index ref "reach" "LLogRiver$Reach;" ∈ kt_) (hsm : ∀ x, s.fieldFound? "LogRiver$Crew" "reach" "LLogRiver$Reach;" = some x → s.fieldFound? ref "reach" "LLogRiver$Reach;" = some x) (hdg : decode cc pc = .ok (.getfield index, 3)) (kk : kx_W p l e fr lo c0 s m args below meth c H locs σ Q (F0 m (pc + 3) ls (va_rf (xr σ 64 a) :: rest))) : kx_W p l e fr lo c0 s m args below meth c H locs σ Q (F0 m pc ls (.ref a :: rest)) :=
  kx_get (k := 0) (v := va_rf (xr σ 64 a)) F C (by rw [ha]; decide) (kx_e4 ha) kx_inX2 rfl (by decide) hw hsm rfl hdg kk
theorem xp_X2_reach {ref : String} {a : Nat} {x : Option Nat} (F : CallFix p m c cc nL s args kt_ own) (C : kx_X G c0 s H locs σ) (ha : xt σ a = 4) (hw : Cond.fieldLink own index ref "reach" "LLogRiver$Reach;" ∈ kt_) (hsm : ∀ x, s.fieldFound? "LogRiver$Crew" "reach" "LLogRiver$Reach;" = some x → s.fieldFound? ref "reach" "LLogRiver$Reach;" = some x) (hdg : decode cc pc = .ok (.putfield index, 3)) (kk : ∀ (H1 : Heap) (locs1 : List Loc), kx_X G c0 s H1 locs1 (xsr σ 64 a x) → kx_W p l e fr lo c0 s m args below meth c H1 locs1 (xsr σ 64 a x) Q (F0 m (pc + 3) ls rest)) : kx_W p l e fr lo c0 s m args below meth c H locs σ Q (F0 m pc ls (va_rf x :: .ref a :: rest)) :=
  kx_put (k := 0) (τ := xsr σ 64 a x) (ty := .object "LogRiver$Reach") (ty0 := tyX2) F C (by rw [ha]; decide) (kx_e4 ha) kx_inX2 tyX2_ok nmX2 rfl (by decide) hw hsm rfl (by decide +kernel) (by cases x <;> rfl) (by cases x <;> rfl) (Nat.le_of_ble_eq_true rfl) (fun b => by
    by_cases hb : b = a
    · rw [hb, va_up_self, kx_e4 (show xt (xsr σ 64 a x) a = 4 from ha)]
      have e9 : xr (xsr σ 64 a x) 64 a = x := va_up_self _ a x
      show _ = Sum.inr (3, _)
      rw [e9]
      rfl
    · rw [va_up_ne _ _ hb, kx_nsr hb]) (fun _ h => h) rfl rfl hdg kk
theorem xg_X2_readyAt {ref : String} {a : Nat} (F : CallFix p m c cc nL s args kt_ own) (C : kx_X G c0 s H locs σ) (ha : xt σ a = 4) (hw : Cond.fieldLink own index ref "readyAt" "I" ∈ kt_) (hsm : ∀ x, s.fieldFound? "LogRiver$Crew" "readyAt" "I" = some x → s.fieldFound? ref "readyAt" "I" = some x) (hdg : decode cc pc = .ok (.getfield index, 3)) (kk : kx_W p l e fr lo c0 s m args below meth c H locs σ Q (F0 m (pc + 3) ls (.int (xi σ 65 a) :: rest))) : kx_W p l e fr lo c0 s m args below meth c H locs σ Q (F0 m pc ls (.ref a :: rest)) :=
  kx_get (k := 1) (v := .int (xi σ 65 a)) F C (by rw [ha]; decide) (kx_e4 ha) kx_inX2 rfl (by decide) hw hsm rfl hdg kk
theorem xp_X2_readyAt {ref : String} {a : Nat} {x : Int32} (F : CallFix p m c cc nL s args kt_ own) (C : kx_X G c0 s H locs σ) (ha : xt σ a = 4) (hw : Cond.fieldLink own index ref "readyAt" "I" ∈ kt_) (hsm : ∀ x, s.fieldFound? "LogRiver$Crew" "readyAt" "I" = some x → s.fieldFound? ref "readyAt" "I" = some x) (hdg : decode cc pc = .ok (.putfield index, 3)) (kk : ∀ (H1 : Heap) (locs1 : List Loc), kx_X G c0 s H1 locs1 (xsi σ 65 a x) → kx_W p l e fr lo c0 s m args below meth c H1 locs1 (xsi σ 65 a x) Q (F0 m (pc + 3) ls rest)) : kx_W p l e fr lo c0 s m args below meth c H locs σ Q (F0 m pc ls (.int x :: .ref a :: rest)) :=
  kx_put (k := 1) (τ := xsi σ 65 a x) (ty := .int) (ty0 := tyX2) F C (by rw [ha]; decide) (kx_e4 ha) kx_inX2 tyX2_ok nmX2 rfl (by decide) hw hsm rfl (by decide +kernel) rfl rfl (Nat.le_of_ble_eq_true rfl) (fun b => by
    by_cases hb : b = a
    · rw [hb, va_up_self, kx_e4 (show xt (xsi σ 65 a x) a = 4 from ha)]
      have e9 : xi (xsi σ 65 a x) 65 a = x := va_up_self _ a x
      show _ = Sum.inr (3, _)
      rw [e9]
      rfl
    · rw [va_up_ne _ _ hb, kx_nsi hb]) (fun _ h => h) rfl rfl hdg kk
theorem xw_X2 (F : CallFix p m c cc nL s args kt_ own) (C : kx_X G c0 s H locs σ) (hN : xc σ < kx_N) (hcl : Cond.classLink own index RX2 ∈ kt_) (hdg : decode cc pc = .ok (.new index, 3)) (kk : ∀ (q : Nat) (H1 : Heap), xt σ q = 0 → q ≠ kx_z G → kx_X G c0 s H1 locs (xnew σ q 4) → kx_W p l e fr lo c0 s m args below meth c H1 locs (xnew σ q 4) Q (F0 m (pc + 3) ls (.ref q :: rest))) : kx_W p l e fr lo c0 s m args below meth c H locs σ Q (F0 m pc ls rest) :=
  kx_new (ci := 3) (fs := [.null, .int 0]) (tag := 4) F C hN kx_inX2 tyX2_ok hcl ux_40 ux_41 rfl kx_dfX2 (by decide) (fun q => by
    rw [kx_e4 (show xt (xnew σ q 4) q = 4 from va_up_self _ _ _)]
    simp only [xi, xr, xl, xnew, va_up_self, va_rf]) hdg kk
theorem xg_X3_stack {ref : String} {a : Nat} (F : CallFix p m c cc nL s args kt_ own) (C : kx_X G c0 s H locs σ) (ha : xt σ a = 5) (hw : Cond.fieldLink own index ref "stack" "[I" ∈ kt_) (hsm : ∀ x, s.fieldFound? "LogRiver$Judge" "stack" "[I" = some x → s.fieldFound? ref "stack" "[I" = some x) (hdg : decode cc pc = .ok (.getfield index, 3)) (kk : kx_W p l e fr lo c0 s m args below meth c H locs σ Q (F0 m (pc + 3) ls (va_rf (xr σ 80 a) :: rest))) : kx_W p l e fr lo c0 s m args below meth c H locs σ Q (F0 m pc ls (.ref a :: rest)) :=
  kx_get (k := 0) (v := va_rf (xr σ 80 a)) F C (by rw [ha]; decide) (kx_e5 ha) kx_inX3 rfl (by decide) hw hsm rfl hdg kk
theorem xp_X3_stack {ref : String} {a : Nat} {x : Option Nat} (F : CallFix p m c cc nL s args kt_ own) (C : kx_X G c0 s H locs σ) (ha : xt σ a = 5) (hw : Cond.fieldLink own index ref "stack" "[I" ∈ kt_) (hsm : ∀ x, s.fieldFound? "LogRiver$Judge" "stack" "[I" = some x → s.fieldFound? ref "stack" "[I" = some x) (hini : meth.name = "<init>") (hdecl : "LogRiver$Judge" = own) (hdg : decode cc pc = .ok (.putfield index, 3)) (kk : ∀ (H1 : Heap) (locs1 : List Loc), kx_X G c0 s H1 locs1 (xsr σ 80 a x) → kx_W p l e fr lo c0 s m args below meth c H1 locs1 (xsr σ 80 a x) Q (F0 m (pc + 3) ls rest)) : kx_W p l e fr lo c0 s m args below meth c H locs σ Q (F0 m pc ls (va_rf x :: .ref a :: rest)) :=
  kx_putF (k := 0) (τ := xsr σ 80 a x) (ty := .array .int) (ty0 := tyX3) F C (by rw [ha]; decide) (kx_e5 ha) kx_inX3 tyX3_ok nmX3 rfl (by decide) hw hsm rfl hini hdecl (by decide +kernel) (by cases x <;> rfl) (by cases x <;> rfl) (Nat.le_of_ble_eq_true rfl) (fun b => by
    by_cases hb : b = a
    · rw [hb, va_up_self, kx_e5 (show xt (xsr σ 80 a x) a = 5 from ha)]
      have e9 : xr (xsr σ 80 a x) 80 a = x := va_up_self _ a x
      show _ = Sum.inr (4, _)
      rw [e9]
      rfl
    · rw [va_up_ne _ _ hb, kx_nsr hb]) (fun _ h => h) rfl rfl hdg kk
theorem xg_X3_names {ref : String} {a : Nat} (F : CallFix p m c cc nL s args kt_ own) (C : kx_X G c0 s H locs σ) (ha : xt σ a = 5) (hw : Cond.fieldLink own index ref "names" "[I" ∈ kt_) (hsm : ∀ x, s.fieldFound? "LogRiver$Judge" "names" "[I" = some x → s.fieldFound? ref "names" "[I" = some x) (hdg : decode cc pc = .ok (.getfield index, 3)) (kk : kx_W p l e fr lo c0 s m args below meth c H locs σ Q (F0 m (pc + 3) ls (va_rf (xr σ 81 a) :: rest))) : kx_W p l e fr lo c0 s m args below meth c H locs σ Q (F0 m pc ls (.ref a :: rest)) :=
  kx_get (k := 1) (v := va_rf (xr σ 81 a)) F C (by rw [ha]; decide) (kx_e5 ha) kx_inX3 rfl (by decide) hw hsm rfl hdg kk
theorem xp_X3_names {ref : String} {a : Nat} {x : Option Nat} (F : CallFix p m c cc nL s args kt_ own) (C : kx_X G c0 s H locs σ) (ha : xt σ a = 5) (hw : Cond.fieldLink own index ref "names" "[I" ∈ kt_) (hsm : ∀ x, s.fieldFound? "LogRiver$Judge" "names" "[I" = some x → s.fieldFound? ref "names" "[I" = some x) (hini : meth.name = "<init>") (hdecl : "LogRiver$Judge" = own) (hdg : decode cc pc = .ok (.putfield index, 3)) (kk : ∀ (H1 : Heap) (locs1 : List Loc), kx_X G c0 s H1 locs1 (xsr σ 81 a x) → kx_W p l e fr lo c0 s m args below meth c H1 locs1 (xsr σ 81 a x) Q (F0 m (pc + 3) ls rest)) : kx_W p l e fr lo c0 s m args below meth c H locs σ Q (F0 m pc ls (va_rf x :: .ref a :: rest)) :=
  kx_putF (k := 1) (τ := xsr σ 81 a x) (ty := .array .int) (ty0 := tyX3) F C (by rw [ha]; decide) (kx_e5 ha) kx_inX3 tyX3_ok nmX3 rfl (by decide) hw hsm rfl hini hdecl (by decide +kernel) (by cases x <;> rfl) (by cases x <;> rfl) (Nat.le_of_ble_eq_true rfl) (fun b => by
    by_cases hb : b = a
    · rw [hb, va_up_self, kx_e5 (show xt (xsr σ 81 a x) a = 5 from ha)]
      have e9 : xr (xsr σ 81 a x) 81 a = x := va_up_self _ a x
      show _ = Sum.inr (4, _)
      rw [e9]
      rfl
    · rw [va_up_ne _ _ hb, kx_nsr hb]) (fun _ h => h) rfl rfl hdg kk
theorem xg_X3_height {ref : String} {a : Nat} (F : CallFix p m c cc nL s args kt_ own) (C : kx_X G c0 s H locs σ) (ha : xt σ a = 5) (hw : Cond.fieldLink own index ref "height" "I" ∈ kt_) (hsm : ∀ x, s.fieldFound? "LogRiver$Judge" "height" "I" = some x → s.fieldFound? ref "height" "I" = some x) (hdg : decode cc pc = .ok (.getfield index, 3)) (kk : kx_W p l e fr lo c0 s m args below meth c H locs σ Q (F0 m (pc + 3) ls (.int (xi σ 82 a) :: rest))) : kx_W p l e fr lo c0 s m args below meth c H locs σ Q (F0 m pc ls (.ref a :: rest)) :=
  kx_get (k := 2) (v := .int (xi σ 82 a)) F C (by rw [ha]; decide) (kx_e5 ha) kx_inX3 rfl (by decide) hw hsm rfl hdg kk
theorem xp_X3_height {ref : String} {a : Nat} {x : Int32} (F : CallFix p m c cc nL s args kt_ own) (C : kx_X G c0 s H locs σ) (ha : xt σ a = 5) (hw : Cond.fieldLink own index ref "height" "I" ∈ kt_) (hsm : ∀ x, s.fieldFound? "LogRiver$Judge" "height" "I" = some x → s.fieldFound? ref "height" "I" = some x) (hdg : decode cc pc = .ok (.putfield index, 3)) (kk : ∀ (H1 : Heap) (locs1 : List Loc), kx_X G c0 s H1 locs1 (xsi σ 82 a x) → kx_W p l e fr lo c0 s m args below meth c H1 locs1 (xsi σ 82 a x) Q (F0 m (pc + 3) ls rest)) : kx_W p l e fr lo c0 s m args below meth c H locs σ Q (F0 m pc ls (.int x :: .ref a :: rest)) :=
  kx_put (k := 2) (τ := xsi σ 82 a x) (ty := .int) (ty0 := tyX3) F C (by rw [ha]; decide) (kx_e5 ha) kx_inX3 tyX3_ok nmX3 rfl (by decide) hw hsm rfl (by decide +kernel) rfl rfl (Nat.le_of_ble_eq_true rfl) (fun b => by
    by_cases hb : b = a
    · rw [hb, va_up_self, kx_e5 (show xt (xsi σ 82 a x) a = 5 from ha)]
      have e9 : xi (xsi σ 82 a x) 82 a = x := va_up_self _ a x
      show _ = Sum.inr (4, _)
      rw [e9]
      rfl
    · rw [va_up_ne _ _ hb, kx_nsi hb]) (fun _ h => h) rfl rfl hdg kk
theorem xg_X3_barred {ref : String} {a : Nat} (F : CallFix p m c cc nL s args kt_ own) (C : kx_X G c0 s H locs σ) (ha : xt σ a = 5) (hw : Cond.fieldLink own index ref "barred" "Z" ∈ kt_) (hsm : ∀ x, s.fieldFound? "LogRiver$Judge" "barred" "Z" = some x → s.fieldFound? ref "barred" "Z" = some x) (hdg : decode cc pc = .ok (.getfield index, 3)) (kk : kx_W p l e fr lo c0 s m args below meth c H locs σ Q (F0 m (pc + 3) ls (.int (xi σ 83 a) :: rest))) : kx_W p l e fr lo c0 s m args below meth c H locs σ Q (F0 m pc ls (.ref a :: rest)) :=
  kx_get (k := 3) (v := .int (xi σ 83 a)) F C (by rw [ha]; decide) (kx_e5 ha) kx_inX3 rfl (by decide) hw hsm rfl hdg kk
theorem xp_X3_barred {ref : String} {a : Nat} {x : Int32} (F : CallFix p m c cc nL s args kt_ own) (C : kx_X G c0 s H locs σ) (ha : xt σ a = 5) (hz : narrow .boolean (.int x) = .int x ∧ fits .boolean (.int x) = true) (hw : Cond.fieldLink own index ref "barred" "Z" ∈ kt_) (hsm : ∀ x, s.fieldFound? "LogRiver$Judge" "barred" "Z" = some x → s.fieldFound? ref "barred" "Z" = some x) (hdg : decode cc pc = .ok (.putfield index, 3)) (kk : ∀ (H1 : Heap) (locs1 : List Loc), kx_X G c0 s H1 locs1 (xsi σ 83 a x) → kx_W p l e fr lo c0 s m args below meth c H1 locs1 (xsi σ 83 a x) Q (F0 m (pc + 3) ls rest)) : kx_W p l e fr lo c0 s m args below meth c H locs σ Q (F0 m pc ls (.int x :: .ref a :: rest)) :=
  kx_put (k := 3) (τ := xsi σ 83 a x) (ty := .boolean) (ty0 := tyX3) F C (by rw [ha]; decide) (kx_e5 ha) kx_inX3 tyX3_ok nmX3 rfl (by decide) hw hsm rfl (by decide +kernel) hz.1 hz.2 (Nat.le_of_ble_eq_true rfl) (fun b => by
    by_cases hb : b = a
    · rw [hb, va_up_self, kx_e5 (show xt (xsi σ 83 a x) a = 5 from ha)]
      have e9 : xi (xsi σ 83 a x) 83 a = x := va_up_self _ a x
      show _ = Sum.inr (4, _)
      rw [e9]
      rfl
    · rw [va_up_ne _ _ hb, kx_nsi hb]) (fun _ h => h) rfl rfl hdg kk
theorem xg_X3_toll {ref : String} {a : Nat} (F : CallFix p m c cc nL s args kt_ own) (C : kx_X G c0 s H locs σ) (ha : xt σ a = 5) (hw : Cond.fieldLink own index ref "toll" "J" ∈ kt_) (hsm : ∀ x, s.fieldFound? "LogRiver$Judge" "toll" "J" = some x → s.fieldFound? ref "toll" "J" = some x) (hdg : decode cc pc = .ok (.getfield index, 3)) (kk : kx_W p l e fr lo c0 s m args below meth c H locs σ Q (F0 m (pc + 3) ls (.long (xl σ 84 a) :: rest))) : kx_W p l e fr lo c0 s m args below meth c H locs σ Q (F0 m pc ls (.ref a :: rest)) :=
  kx_get (k := 4) (v := .long (xl σ 84 a)) F C (by rw [ha]; decide) (kx_e5 ha) kx_inX3 rfl (by decide) hw hsm rfl hdg kk
theorem xp_X3_toll {ref : String} {a : Nat} {x : Int64} (F : CallFix p m c cc nL s args kt_ own) (C : kx_X G c0 s H locs σ) (ha : xt σ a = 5) (hw : Cond.fieldLink own index ref "toll" "J" ∈ kt_) (hsm : ∀ x, s.fieldFound? "LogRiver$Judge" "toll" "J" = some x → s.fieldFound? ref "toll" "J" = some x) (hdg : decode cc pc = .ok (.putfield index, 3)) (kk : ∀ (H1 : Heap) (locs1 : List Loc), kx_X G c0 s H1 locs1 (xsl σ 84 a x) → kx_W p l e fr lo c0 s m args below meth c H1 locs1 (xsl σ 84 a x) Q (F0 m (pc + 3) ls rest)) : kx_W p l e fr lo c0 s m args below meth c H locs σ Q (F0 m pc ls (.long x :: .ref a :: rest)) :=
  kx_put (k := 4) (τ := xsl σ 84 a x) (ty := .long) (ty0 := tyX3) F C (by rw [ha]; decide) (kx_e5 ha) kx_inX3 tyX3_ok nmX3 rfl (by decide) hw hsm rfl (by decide +kernel) rfl rfl (Nat.le_of_ble_eq_true rfl) (fun b => by
    by_cases hb : b = a
    · rw [hb, va_up_self, kx_e5 (show xt (xsl σ 84 a x) a = 5 from ha)]
      have e9 : xl (xsl σ 84 a x) 84 a = x := va_up_self _ a x
      show _ = Sum.inr (4, _)
      rw [e9]
      rfl
    · rw [va_up_ne _ _ hb, kx_nsl hb]) (fun _ h => h) rfl rfl hdg kk
theorem xw_X3 (F : CallFix p m c cc nL s args kt_ own) (C : kx_X G c0 s H locs σ) (hN : xc σ < kx_N) (hcl : Cond.classLink own index RX3 ∈ kt_) (hdg : decode cc pc = .ok (.new index, 3)) (kk : ∀ (q : Nat) (H1 : Heap), xt σ q = 0 → q ≠ kx_z G → kx_X G c0 s H1 locs (xnew σ q 5) → kx_W p l e fr lo c0 s m args below meth c H1 locs (xnew σ q 5) Q (F0 m (pc + 3) ls (.ref q :: rest))) : kx_W p l e fr lo c0 s m args below meth c H locs σ Q (F0 m pc ls rest) :=
  kx_new (ci := 4) (fs := [.null, .null, .int 0, .int 0, .long 0]) (tag := 5) F C hN kx_inX3 tyX3_ok hcl ux_47 ux_48 rfl kx_dfX3 (by decide) (fun q => by
    rw [kx_e5 (show xt (xnew σ q 5) q = 5 from va_up_self _ _ _)]
    simp only [xi, xr, xl, xnew, va_up_self, va_rf]) hdg kk
theorem xg_X4_day {ref : String} {a : Nat} (F : CallFix p m c cc nL s args kt_ own) (C : kx_X G c0 s H locs σ) (ha : xt σ a = 6) (hw : Cond.fieldLink own index ref "day" "I" ∈ kt_) (hsm : ∀ x, s.fieldFound? "LogRiver$Law" "day" "I" = some x → s.fieldFound? ref "day" "I" = some x) (hdg : decode cc pc = .ok (.getfield index, 3)) (kk : kx_W p l e fr lo c0 s m args below meth c H locs σ Q (F0 m (pc + 3) ls (.int (xi σ 96 a) :: rest))) : kx_W p l e fr lo c0 s m args below meth c H locs σ Q (F0 m pc ls (.ref a :: rest)) :=
  kx_get (k := 0) (v := .int (xi σ 96 a)) F C (by rw [ha]; decide) (kx_e6 ha) kx_inX4 rfl (by decide) hw hsm rfl hdg kk
theorem xp_X4_day {ref : String} {a : Nat} {x : Int32} (F : CallFix p m c cc nL s args kt_ own) (C : kx_X G c0 s H locs σ) (ha : xt σ a = 6) (hw : Cond.fieldLink own index ref "day" "I" ∈ kt_) (hsm : ∀ x, s.fieldFound? "LogRiver$Law" "day" "I" = some x → s.fieldFound? ref "day" "I" = some x) (hini : meth.name = "<init>") (hdecl : "LogRiver$Law" = own) (hdg : decode cc pc = .ok (.putfield index, 3)) (kk : ∀ (H1 : Heap) (locs1 : List Loc), kx_X G c0 s H1 locs1 (xsi σ 96 a x) → kx_W p l e fr lo c0 s m args below meth c H1 locs1 (xsi σ 96 a x) Q (F0 m (pc + 3) ls rest)) : kx_W p l e fr lo c0 s m args below meth c H locs σ Q (F0 m pc ls (.int x :: .ref a :: rest)) :=
  kx_putF (k := 0) (τ := xsi σ 96 a x) (ty := .int) (ty0 := tyX4) F C (by rw [ha]; decide) (kx_e6 ha) kx_inX4 tyX4_ok nmX4 rfl (by decide) hw hsm rfl hini hdecl (by decide +kernel) rfl rfl (Nat.le_of_ble_eq_true rfl) (fun b => by
    by_cases hb : b = a
    · rw [hb, va_up_self, kx_e6 (show xt (xsi σ 96 a x) a = 6 from ha)]
      have e9 : xi (xsi σ 96 a x) 96 a = x := va_up_self _ a x
      show _ = Sum.inr (5, _)
      rw [e9]
      rfl
    · rw [va_up_ne _ _ hb, kx_nsi hb]) (fun _ h => h) rfl rfl hdg kk
theorem xg_X4_code {ref : String} {a : Nat} (F : CallFix p m c cc nL s args kt_ own) (C : kx_X G c0 s H locs σ) (ha : xt σ a = 6) (hw : Cond.fieldLink own index ref "code" "[I" ∈ kt_) (hsm : ∀ x, s.fieldFound? "LogRiver$Law" "code" "[I" = some x → s.fieldFound? ref "code" "[I" = some x) (hdg : decode cc pc = .ok (.getfield index, 3)) (kk : kx_W p l e fr lo c0 s m args below meth c H locs σ Q (F0 m (pc + 3) ls (va_rf (xr σ 97 a) :: rest))) : kx_W p l e fr lo c0 s m args below meth c H locs σ Q (F0 m pc ls (.ref a :: rest)) :=
  kx_get (k := 1) (v := va_rf (xr σ 97 a)) F C (by rw [ha]; decide) (kx_e6 ha) kx_inX4 rfl (by decide) hw hsm rfl hdg kk
theorem xp_X4_code {ref : String} {a : Nat} {x : Option Nat} (F : CallFix p m c cc nL s args kt_ own) (C : kx_X G c0 s H locs σ) (ha : xt σ a = 6) (hw : Cond.fieldLink own index ref "code" "[I" ∈ kt_) (hsm : ∀ x, s.fieldFound? "LogRiver$Law" "code" "[I" = some x → s.fieldFound? ref "code" "[I" = some x) (hini : meth.name = "<init>") (hdecl : "LogRiver$Law" = own) (hdg : decode cc pc = .ok (.putfield index, 3)) (kk : ∀ (H1 : Heap) (locs1 : List Loc), kx_X G c0 s H1 locs1 (xsr σ 97 a x) → kx_W p l e fr lo c0 s m args below meth c H1 locs1 (xsr σ 97 a x) Q (F0 m (pc + 3) ls rest)) : kx_W p l e fr lo c0 s m args below meth c H locs σ Q (F0 m pc ls (va_rf x :: .ref a :: rest)) :=
  kx_putF (k := 1) (τ := xsr σ 97 a x) (ty := .array .int) (ty0 := tyX4) F C (by rw [ha]; decide) (kx_e6 ha) kx_inX4 tyX4_ok nmX4 rfl (by decide) hw hsm rfl hini hdecl (by decide +kernel) (by cases x <;> rfl) (by cases x <;> rfl) (Nat.le_of_ble_eq_true rfl) (fun b => by
    by_cases hb : b = a
    · rw [hb, va_up_self, kx_e6 (show xt (xsr σ 97 a x) a = 6 from ha)]
      have e9 : xr (xsr σ 97 a x) 97 a = x := va_up_self _ a x
      show _ = Sum.inr (5, _)
      rw [e9]
      rfl
    · rw [va_up_ne _ _ hb, kx_nsr hb]) (fun _ h => h) rfl rfl hdg kk
theorem xw_X4 (F : CallFix p m c cc nL s args kt_ own) (C : kx_X G c0 s H locs σ) (hN : xc σ < kx_N) (hcl : Cond.classLink own index RX4 ∈ kt_) (hdg : decode cc pc = .ok (.new index, 3)) (kk : ∀ (q : Nat) (H1 : Heap), xt σ q = 0 → q ≠ kx_z G → kx_X G c0 s H1 locs (xnew σ q 6) → kx_W p l e fr lo c0 s m args below meth c H1 locs (xnew σ q 6) Q (F0 m (pc + 3) ls (.ref q :: rest))) : kx_W p l e fr lo c0 s m args below meth c H locs σ Q (F0 m pc ls rest) :=
  kx_new (ci := 5) (fs := [.int 0, .null]) (tag := 6) F C hN kx_inX4 tyX4_ok hcl ux_51 ux_52 rfl kx_dfX4 (by decide) (fun q => by
    rw [kx_e6 (show xt (xnew σ q 6) q = 6 from va_up_self _ _ _)]
    simp only [xi, xr, xl, xnew, va_up_self, va_rf]) hdg kk
theorem xg_X5_tokens {ref : String} {a : Nat} (F : CallFix p m c cc nL s args kt_ own) (C : kx_X G c0 s H locs σ) (ha : xt σ a = 7) (hw : Cond.fieldLink own index ref "tokens" "LLogRiver$Tokens;" ∈ kt_) (hsm : ∀ x, s.fieldFound? "LogRiver$LawReader" "tokens" "LLogRiver$Tokens;" = some x → s.fieldFound? ref "tokens" "LLogRiver$Tokens;" = some x) (hdg : decode cc pc = .ok (.getfield index, 3)) (kk : kx_W p l e fr lo c0 s m args below meth c H locs σ Q (F0 m (pc + 3) ls (va_rf (xr σ 112 a) :: rest))) : kx_W p l e fr lo c0 s m args below meth c H locs σ Q (F0 m pc ls (.ref a :: rest)) :=
  kx_get (k := 0) (v := va_rf (xr σ 112 a)) F C (by rw [ha]; decide) (kx_e7 ha) kx_inX5 rfl (by decide) hw hsm rfl hdg kk
theorem xp_X5_tokens {ref : String} {a : Nat} {x : Option Nat} (F : CallFix p m c cc nL s args kt_ own) (C : kx_X G c0 s H locs σ) (ha : xt σ a = 7) (hw : Cond.fieldLink own index ref "tokens" "LLogRiver$Tokens;" ∈ kt_) (hsm : ∀ x, s.fieldFound? "LogRiver$LawReader" "tokens" "LLogRiver$Tokens;" = some x → s.fieldFound? ref "tokens" "LLogRiver$Tokens;" = some x) (hini : meth.name = "<init>") (hdecl : "LogRiver$LawReader" = own) (hdg : decode cc pc = .ok (.putfield index, 3)) (kk : ∀ (H1 : Heap) (locs1 : List Loc), kx_X G c0 s H1 locs1 (xsr σ 112 a x) → kx_W p l e fr lo c0 s m args below meth c H1 locs1 (xsr σ 112 a x) Q (F0 m (pc + 3) ls rest)) : kx_W p l e fr lo c0 s m args below meth c H locs σ Q (F0 m pc ls (va_rf x :: .ref a :: rest)) :=
  kx_putF (k := 0) (τ := xsr σ 112 a x) (ty := .object "LogRiver$Tokens") (ty0 := tyX5) F C (by rw [ha]; decide) (kx_e7 ha) kx_inX5 tyX5_ok nmX5 rfl (by decide) hw hsm rfl hini hdecl (by decide +kernel) (by cases x <;> rfl) (by cases x <;> rfl) (Nat.le_of_ble_eq_true rfl) (fun b => by
    by_cases hb : b = a
    · rw [hb, va_up_self, kx_e7 (show xt (xsr σ 112 a x) a = 7 from ha)]
      have e9 : xr (xsr σ 112 a x) 112 a = x := va_up_self _ a x
      show _ = Sum.inr (6, _)
      rw [e9]
      rfl
    · rw [va_up_ne _ _ hb, kx_nsr hb]) (fun _ h => h) rfl rfl hdg kk
theorem xg_X5_code {ref : String} {a : Nat} (F : CallFix p m c cc nL s args kt_ own) (C : kx_X G c0 s H locs σ) (ha : xt σ a = 7) (hw : Cond.fieldLink own index ref "code" "[I" ∈ kt_) (hsm : ∀ x, s.fieldFound? "LogRiver$LawReader" "code" "[I" = some x → s.fieldFound? ref "code" "[I" = some x) (hdg : decode cc pc = .ok (.getfield index, 3)) (kk : kx_W p l e fr lo c0 s m args below meth c H locs σ Q (F0 m (pc + 3) ls (va_rf (xr σ 113 a) :: rest))) : kx_W p l e fr lo c0 s m args below meth c H locs σ Q (F0 m pc ls (.ref a :: rest)) :=
  kx_get (k := 1) (v := va_rf (xr σ 113 a)) F C (by rw [ha]; decide) (kx_e7 ha) kx_inX5 rfl (by decide) hw hsm rfl hdg kk
theorem xp_X5_code {ref : String} {a : Nat} {x : Option Nat} (F : CallFix p m c cc nL s args kt_ own) (C : kx_X G c0 s H locs σ) (ha : xt σ a = 7) (hw : Cond.fieldLink own index ref "code" "[I" ∈ kt_) (hsm : ∀ x, s.fieldFound? "LogRiver$LawReader" "code" "[I" = some x → s.fieldFound? ref "code" "[I" = some x) (hini : meth.name = "<init>") (hdecl : "LogRiver$LawReader" = own) (hdg : decode cc pc = .ok (.putfield index, 3)) (kk : ∀ (H1 : Heap) (locs1 : List Loc), kx_X G c0 s H1 locs1 (xsr σ 113 a x) → kx_W p l e fr lo c0 s m args below meth c H1 locs1 (xsr σ 113 a x) Q (F0 m (pc + 3) ls rest)) : kx_W p l e fr lo c0 s m args below meth c H locs σ Q (F0 m pc ls (va_rf x :: .ref a :: rest)) :=
  kx_putF (k := 1) (τ := xsr σ 113 a x) (ty := .array .int) (ty0 := tyX5) F C (by rw [ha]; decide) (kx_e7 ha) kx_inX5 tyX5_ok nmX5 rfl (by decide) hw hsm rfl hini hdecl (by decide +kernel) (by cases x <;> rfl) (by cases x <;> rfl) (Nat.le_of_ble_eq_true rfl) (fun b => by
    by_cases hb : b = a
    · rw [hb, va_up_self, kx_e7 (show xt (xsr σ 113 a x) a = 7 from ha)]
      have e9 : xr (xsr σ 113 a x) 113 a = x := va_up_self _ a x
      show _ = Sum.inr (6, _)
      rw [e9]
      rfl
    · rw [va_up_ne _ _ hb, kx_nsr hb]) (fun _ h => h) rfl rfl hdg kk
theorem xg_X5_codeLength {ref : String} {a : Nat} (F : CallFix p m c cc nL s args kt_ own) (C : kx_X G c0 s H locs σ) (ha : xt σ a = 7) (hw : Cond.fieldLink own index ref "codeLength" "I" ∈ kt_) (hsm : ∀ x, s.fieldFound? "LogRiver$LawReader" "codeLength" "I" = some x → s.fieldFound? ref "codeLength" "I" = some x) (hdg : decode cc pc = .ok (.getfield index, 3)) (kk : kx_W p l e fr lo c0 s m args below meth c H locs σ Q (F0 m (pc + 3) ls (.int (xi σ 114 a) :: rest))) : kx_W p l e fr lo c0 s m args below meth c H locs σ Q (F0 m pc ls (.ref a :: rest)) :=
  kx_get (k := 2) (v := .int (xi σ 114 a)) F C (by rw [ha]; decide) (kx_e7 ha) kx_inX5 rfl (by decide) hw hsm rfl hdg kk
theorem xp_X5_codeLength {ref : String} {a : Nat} {x : Int32} (F : CallFix p m c cc nL s args kt_ own) (C : kx_X G c0 s H locs σ) (ha : xt σ a = 7) (hw : Cond.fieldLink own index ref "codeLength" "I" ∈ kt_) (hsm : ∀ x, s.fieldFound? "LogRiver$LawReader" "codeLength" "I" = some x → s.fieldFound? ref "codeLength" "I" = some x) (hdg : decode cc pc = .ok (.putfield index, 3)) (kk : ∀ (H1 : Heap) (locs1 : List Loc), kx_X G c0 s H1 locs1 (xsi σ 114 a x) → kx_W p l e fr lo c0 s m args below meth c H1 locs1 (xsi σ 114 a x) Q (F0 m (pc + 3) ls rest)) : kx_W p l e fr lo c0 s m args below meth c H locs σ Q (F0 m pc ls (.int x :: .ref a :: rest)) :=
  kx_put (k := 2) (τ := xsi σ 114 a x) (ty := .int) (ty0 := tyX5) F C (by rw [ha]; decide) (kx_e7 ha) kx_inX5 tyX5_ok nmX5 rfl (by decide) hw hsm rfl (by decide +kernel) rfl rfl (Nat.le_of_ble_eq_true rfl) (fun b => by
    by_cases hb : b = a
    · rw [hb, va_up_self, kx_e7 (show xt (xsi σ 114 a x) a = 7 from ha)]
      have e9 : xi (xsi σ 114 a x) 114 a = x := va_up_self _ a x
      show _ = Sum.inr (6, _)
      rw [e9]
      rfl
    · rw [va_up_ne _ _ hb, kx_nsi hb]) (fun _ h => h) rfl rfl hdg kk
theorem xg_X5_fault {ref : String} {a : Nat} (F : CallFix p m c cc nL s args kt_ own) (C : kx_X G c0 s H locs σ) (ha : xt σ a = 7) (hw : Cond.fieldLink own index ref "fault" "I" ∈ kt_) (hsm : ∀ x, s.fieldFound? "LogRiver$LawReader" "fault" "I" = some x → s.fieldFound? ref "fault" "I" = some x) (hdg : decode cc pc = .ok (.getfield index, 3)) (kk : kx_W p l e fr lo c0 s m args below meth c H locs σ Q (F0 m (pc + 3) ls (.int (xi σ 115 a) :: rest))) : kx_W p l e fr lo c0 s m args below meth c H locs σ Q (F0 m pc ls (.ref a :: rest)) :=
  kx_get (k := 3) (v := .int (xi σ 115 a)) F C (by rw [ha]; decide) (kx_e7 ha) kx_inX5 rfl (by decide) hw hsm rfl hdg kk
theorem xp_X5_fault {ref : String} {a : Nat} {x : Int32} (F : CallFix p m c cc nL s args kt_ own) (C : kx_X G c0 s H locs σ) (ha : xt σ a = 7) (hw : Cond.fieldLink own index ref "fault" "I" ∈ kt_) (hsm : ∀ x, s.fieldFound? "LogRiver$LawReader" "fault" "I" = some x → s.fieldFound? ref "fault" "I" = some x) (hdg : decode cc pc = .ok (.putfield index, 3)) (kk : ∀ (H1 : Heap) (locs1 : List Loc), kx_X G c0 s H1 locs1 (xsi σ 115 a x) → kx_W p l e fr lo c0 s m args below meth c H1 locs1 (xsi σ 115 a x) Q (F0 m (pc + 3) ls rest)) : kx_W p l e fr lo c0 s m args below meth c H locs σ Q (F0 m pc ls (.int x :: .ref a :: rest)) :=
  kx_put (k := 3) (τ := xsi σ 115 a x) (ty := .int) (ty0 := tyX5) F C (by rw [ha]; decide) (kx_e7 ha) kx_inX5 tyX5_ok nmX5 rfl (by decide) hw hsm rfl (by decide +kernel) rfl rfl (Nat.le_of_ble_eq_true rfl) (fun b => by
    by_cases hb : b = a
    · rw [hb, va_up_self, kx_e7 (show xt (xsi σ 115 a x) a = 7 from ha)]
      have e9 : xi (xsi σ 115 a x) 115 a = x := va_up_self _ a x
      show _ = Sum.inr (6, _)
      rw [e9]
      rfl
    · rw [va_up_ne _ _ hb, kx_nsi hb]) (fun _ h => h) rfl rfl hdg kk
theorem xg_X5_faultPlace {ref : String} {a : Nat} (F : CallFix p m c cc nL s args kt_ own) (C : kx_X G c0 s H locs σ) (ha : xt σ a = 7) (hw : Cond.fieldLink own index ref "faultPlace" "I" ∈ kt_) (hsm : ∀ x, s.fieldFound? "LogRiver$LawReader" "faultPlace" "I" = some x → s.fieldFound? ref "faultPlace" "I" = some x) (hdg : decode cc pc = .ok (.getfield index, 3)) (kk : kx_W p l e fr lo c0 s m args below meth c H locs σ Q (F0 m (pc + 3) ls (.int (xi σ 116 a) :: rest))) : kx_W p l e fr lo c0 s m args below meth c H locs σ Q (F0 m pc ls (.ref a :: rest)) :=
  kx_get (k := 4) (v := .int (xi σ 116 a)) F C (by rw [ha]; decide) (kx_e7 ha) kx_inX5 rfl (by decide) hw hsm rfl hdg kk
theorem xp_X5_faultPlace {ref : String} {a : Nat} {x : Int32} (F : CallFix p m c cc nL s args kt_ own) (C : kx_X G c0 s H locs σ) (ha : xt σ a = 7) (hw : Cond.fieldLink own index ref "faultPlace" "I" ∈ kt_) (hsm : ∀ x, s.fieldFound? "LogRiver$LawReader" "faultPlace" "I" = some x → s.fieldFound? ref "faultPlace" "I" = some x) (hdg : decode cc pc = .ok (.putfield index, 3)) (kk : ∀ (H1 : Heap) (locs1 : List Loc), kx_X G c0 s H1 locs1 (xsi σ 116 a x) → kx_W p l e fr lo c0 s m args below meth c H1 locs1 (xsi σ 116 a x) Q (F0 m (pc + 3) ls rest)) : kx_W p l e fr lo c0 s m args below meth c H locs σ Q (F0 m pc ls (.int x :: .ref a :: rest)) :=
  kx_put (k := 4) (τ := xsi σ 116 a x) (ty := .int) (ty0 := tyX5) F C (by rw [ha]; decide) (kx_e7 ha) kx_inX5 tyX5_ok nmX5 rfl (by decide) hw hsm rfl (by decide +kernel) rfl rfl (Nat.le_of_ble_eq_true rfl) (fun b => by
    by_cases hb : b = a
    · rw [hb, va_up_self, kx_e7 (show xt (xsi σ 116 a x) a = 7 from ha)]
      have e9 : xi (xsi σ 116 a x) 116 a = x := va_up_self _ a x
      show _ = Sum.inr (6, _)
      rw [e9]
      rfl
    · rw [va_up_ne _ _ hb, kx_nsi hb]) (fun _ h => h) rfl rfl hdg kk
theorem xw_X5 (F : CallFix p m c cc nL s args kt_ own) (C : kx_X G c0 s H locs σ) (hN : xc σ < kx_N) (hcl : Cond.classLink own index RX5 ∈ kt_) (hdg : decode cc pc = .ok (.new index, 3)) (kk : ∀ (q : Nat) (H1 : Heap), xt σ q = 0 → q ≠ kx_z G → kx_X G c0 s H1 locs (xnew σ q 7) → kx_W p l e fr lo c0 s m args below meth c H1 locs (xnew σ q 7) Q (F0 m (pc + 3) ls (.ref q :: rest))) : kx_W p l e fr lo c0 s m args below meth c H locs σ Q (F0 m pc ls rest) :=
  kx_new (ci := 6) (fs := [.null, .null, .int 0, .int 0, .int 0]) (tag := 7) F C hN kx_inX5 tyX5_ok hcl ux_58 ux_59 rfl kx_dfX5 (by decide) (fun q => by
    rw [kx_e7 (show xt (xnew σ q 7) q = 7 from va_up_self _ _ _)]
    simp only [xi, xr, xl, xnew, va_up_self, va_rf]) hdg kk
theorem xg_X6_number {ref : String} {a : Nat} (F : CallFix p m c cc nL s args kt_ own) (C : kx_X G c0 s H locs σ) (ha : xt σ a = 8) (hw : Cond.fieldLink own index ref "number" "I" ∈ kt_) (hsm : ∀ x, s.fieldFound? "LogRiver$Log" "number" "I" = some x → s.fieldFound? ref "number" "I" = some x) (hdg : decode cc pc = .ok (.getfield index, 3)) (kk : kx_W p l e fr lo c0 s m args below meth c H locs σ Q (F0 m (pc + 3) ls (.int (xi σ 128 a) :: rest))) : kx_W p l e fr lo c0 s m args below meth c H locs σ Q (F0 m pc ls (.ref a :: rest)) :=
  kx_get (k := 0) (v := .int (xi σ 128 a)) F C (by rw [ha]; decide) (kx_e8 ha) kx_inX6 rfl (by decide) hw hsm rfl hdg kk
theorem xp_X6_number {ref : String} {a : Nat} {x : Int32} (F : CallFix p m c cc nL s args kt_ own) (C : kx_X G c0 s H locs σ) (ha : xt σ a = 8) (hw : Cond.fieldLink own index ref "number" "I" ∈ kt_) (hsm : ∀ x, s.fieldFound? "LogRiver$Log" "number" "I" = some x → s.fieldFound? ref "number" "I" = some x) (hini : meth.name = "<init>") (hdecl : "LogRiver$Log" = own) (hdg : decode cc pc = .ok (.putfield index, 3)) (kk : ∀ (H1 : Heap) (locs1 : List Loc), kx_X G c0 s H1 locs1 (xsi σ 128 a x) → kx_W p l e fr lo c0 s m args below meth c H1 locs1 (xsi σ 128 a x) Q (F0 m (pc + 3) ls rest)) : kx_W p l e fr lo c0 s m args below meth c H locs σ Q (F0 m pc ls (.int x :: .ref a :: rest)) :=
  kx_putF (k := 0) (τ := xsi σ 128 a x) (ty := .int) (ty0 := tyX6) F C (by rw [ha]; decide) (kx_e8 ha) kx_inX6 tyX6_ok nmX6 rfl (by decide) hw hsm rfl hini hdecl (by decide +kernel) rfl rfl (Nat.le_of_ble_eq_true rfl) (fun b => by
    by_cases hb : b = a
    · rw [hb, va_up_self, kx_e8 (show xt (xsi σ 128 a x) a = 8 from ha)]
      have e9 : xi (xsi σ 128 a x) 128 a = x := va_up_self _ a x
      show _ = Sum.inr (7, _)
      rw [e9]
      rfl
    · rw [va_up_ne _ _ hb, kx_nsi hb]) (fun _ h => h) rfl rfl hdg kk
theorem xg_X6_mark {ref : String} {a : Nat} (F : CallFix p m c cc nL s args kt_ own) (C : kx_X G c0 s H locs σ) (ha : xt σ a = 8) (hw : Cond.fieldLink own index ref "mark" "I" ∈ kt_) (hsm : ∀ x, s.fieldFound? "LogRiver$Log" "mark" "I" = some x → s.fieldFound? ref "mark" "I" = some x) (hdg : decode cc pc = .ok (.getfield index, 3)) (kk : kx_W p l e fr lo c0 s m args below meth c H locs σ Q (F0 m (pc + 3) ls (.int (xi σ 129 a) :: rest))) : kx_W p l e fr lo c0 s m args below meth c H locs σ Q (F0 m pc ls (.ref a :: rest)) :=
  kx_get (k := 1) (v := .int (xi σ 129 a)) F C (by rw [ha]; decide) (kx_e8 ha) kx_inX6 rfl (by decide) hw hsm rfl hdg kk
theorem xp_X6_mark {ref : String} {a : Nat} {x : Int32} (F : CallFix p m c cc nL s args kt_ own) (C : kx_X G c0 s H locs σ) (ha : xt σ a = 8) (hw : Cond.fieldLink own index ref "mark" "I" ∈ kt_) (hsm : ∀ x, s.fieldFound? "LogRiver$Log" "mark" "I" = some x → s.fieldFound? ref "mark" "I" = some x) (hini : meth.name = "<init>") (hdecl : "LogRiver$Log" = own) (hdg : decode cc pc = .ok (.putfield index, 3)) (kk : ∀ (H1 : Heap) (locs1 : List Loc), kx_X G c0 s H1 locs1 (xsi σ 129 a x) → kx_W p l e fr lo c0 s m args below meth c H1 locs1 (xsi σ 129 a x) Q (F0 m (pc + 3) ls rest)) : kx_W p l e fr lo c0 s m args below meth c H locs σ Q (F0 m pc ls (.int x :: .ref a :: rest)) :=
  kx_putF (k := 1) (τ := xsi σ 129 a x) (ty := .int) (ty0 := tyX6) F C (by rw [ha]; decide) (kx_e8 ha) kx_inX6 tyX6_ok nmX6 rfl (by decide) hw hsm rfl hini hdecl (by decide +kernel) rfl rfl (Nat.le_of_ble_eq_true rfl) (fun b => by
    by_cases hb : b = a
    · rw [hb, va_up_self, kx_e8 (show xt (xsi σ 129 a x) a = 8 from ha)]
      have e9 : xi (xsi σ 129 a x) 129 a = x := va_up_self _ a x
      show _ = Sum.inr (7, _)
      rw [e9]
      rfl
    · rw [va_up_ne _ _ hb, kx_nsi hb]) (fun _ h => h) rfl rfl hdg kk
theorem xg_X6_size {ref : String} {a : Nat} (F : CallFix p m c cc nL s args kt_ own) (C : kx_X G c0 s H locs σ) (ha : xt σ a = 8) (hw : Cond.fieldLink own index ref "size" "I" ∈ kt_) (hsm : ∀ x, s.fieldFound? "LogRiver$Log" "size" "I" = some x → s.fieldFound? ref "size" "I" = some x) (hdg : decode cc pc = .ok (.getfield index, 3)) (kk : kx_W p l e fr lo c0 s m args below meth c H locs σ Q (F0 m (pc + 3) ls (.int (xi σ 130 a) :: rest))) : kx_W p l e fr lo c0 s m args below meth c H locs σ Q (F0 m pc ls (.ref a :: rest)) :=
  kx_get (k := 2) (v := .int (xi σ 130 a)) F C (by rw [ha]; decide) (kx_e8 ha) kx_inX6 rfl (by decide) hw hsm rfl hdg kk
theorem xp_X6_size {ref : String} {a : Nat} {x : Int32} (F : CallFix p m c cc nL s args kt_ own) (C : kx_X G c0 s H locs σ) (ha : xt σ a = 8) (hw : Cond.fieldLink own index ref "size" "I" ∈ kt_) (hsm : ∀ x, s.fieldFound? "LogRiver$Log" "size" "I" = some x → s.fieldFound? ref "size" "I" = some x) (hini : meth.name = "<init>") (hdecl : "LogRiver$Log" = own) (hdg : decode cc pc = .ok (.putfield index, 3)) (kk : ∀ (H1 : Heap) (locs1 : List Loc), kx_X G c0 s H1 locs1 (xsi σ 130 a x) → kx_W p l e fr lo c0 s m args below meth c H1 locs1 (xsi σ 130 a x) Q (F0 m (pc + 3) ls rest)) : kx_W p l e fr lo c0 s m args below meth c H locs σ Q (F0 m pc ls (.int x :: .ref a :: rest)) :=
  kx_putF (k := 2) (τ := xsi σ 130 a x) (ty := .int) (ty0 := tyX6) F C (by rw [ha]; decide) (kx_e8 ha) kx_inX6 tyX6_ok nmX6 rfl (by decide) hw hsm rfl hini hdecl (by decide +kernel) rfl rfl (Nat.le_of_ble_eq_true rfl) (fun b => by
    by_cases hb : b = a
    · rw [hb, va_up_self, kx_e8 (show xt (xsi σ 130 a x) a = 8 from ha)]
      have e9 : xi (xsi σ 130 a x) 130 a = x := va_up_self _ a x
      show _ = Sum.inr (7, _)
      rw [e9]
      rfl
    · rw [va_up_ne _ _ hb, kx_nsi hb]) (fun _ h => h) rfl rfl hdg kk
theorem xg_X6_stump {ref : String} {a : Nat} (F : CallFix p m c cc nL s args kt_ own) (C : kx_X G c0 s H locs σ) (ha : xt σ a = 8) (hw : Cond.fieldLink own index ref "stump" "I" ∈ kt_) (hsm : ∀ x, s.fieldFound? "LogRiver$Log" "stump" "I" = some x → s.fieldFound? ref "stump" "I" = some x) (hdg : decode cc pc = .ok (.getfield index, 3)) (kk : kx_W p l e fr lo c0 s m args below meth c H locs σ Q (F0 m (pc + 3) ls (.int (xi σ 131 a) :: rest))) : kx_W p l e fr lo c0 s m args below meth c H locs σ Q (F0 m pc ls (.ref a :: rest)) :=
  kx_get (k := 3) (v := .int (xi σ 131 a)) F C (by rw [ha]; decide) (kx_e8 ha) kx_inX6 rfl (by decide) hw hsm rfl hdg kk
theorem xp_X6_stump {ref : String} {a : Nat} {x : Int32} (F : CallFix p m c cc nL s args kt_ own) (C : kx_X G c0 s H locs σ) (ha : xt σ a = 8) (hw : Cond.fieldLink own index ref "stump" "I" ∈ kt_) (hsm : ∀ x, s.fieldFound? "LogRiver$Log" "stump" "I" = some x → s.fieldFound? ref "stump" "I" = some x) (hini : meth.name = "<init>") (hdecl : "LogRiver$Log" = own) (hdg : decode cc pc = .ok (.putfield index, 3)) (kk : ∀ (H1 : Heap) (locs1 : List Loc), kx_X G c0 s H1 locs1 (xsi σ 131 a x) → kx_W p l e fr lo c0 s m args below meth c H1 locs1 (xsi σ 131 a x) Q (F0 m (pc + 3) ls rest)) : kx_W p l e fr lo c0 s m args below meth c H locs σ Q (F0 m pc ls (.int x :: .ref a :: rest)) :=
  kx_putF (k := 3) (τ := xsi σ 131 a x) (ty := .int) (ty0 := tyX6) F C (by rw [ha]; decide) (kx_e8 ha) kx_inX6 tyX6_ok nmX6 rfl (by decide) hw hsm rfl hini hdecl (by decide +kernel) rfl rfl (Nat.le_of_ble_eq_true rfl) (fun b => by
    by_cases hb : b = a
    · rw [hb, va_up_self, kx_e8 (show xt (xsi σ 131 a x) a = 8 from ha)]
      have e9 : xi (xsi σ 131 a x) 131 a = x := va_up_self _ a x
      show _ = Sum.inr (7, _)
      rw [e9]
      rfl
    · rw [va_up_ne _ _ hb, kx_nsi hb]) (fun _ h => h) rfl rfl hdg kk
theorem xg_X6_place {ref : String} {a : Nat} (F : CallFix p m c cc nL s args kt_ own) (C : kx_X G c0 s H locs σ) (ha : xt σ a = 8) (hw : Cond.fieldLink own index ref "place" "I" ∈ kt_) (hsm : ∀ x, s.fieldFound? "LogRiver$Log" "place" "I" = some x → s.fieldFound? ref "place" "I" = some x) (hdg : decode cc pc = .ok (.getfield index, 3)) (kk : kx_W p l e fr lo c0 s m args below meth c H locs σ Q (F0 m (pc + 3) ls (.int (xi σ 132 a) :: rest))) : kx_W p l e fr lo c0 s m args below meth c H locs σ Q (F0 m pc ls (.ref a :: rest)) :=
  kx_get (k := 4) (v := .int (xi σ 132 a)) F C (by rw [ha]; decide) (kx_e8 ha) kx_inX6 rfl (by decide) hw hsm rfl hdg kk
theorem xp_X6_place {ref : String} {a : Nat} {x : Int32} (F : CallFix p m c cc nL s args kt_ own) (C : kx_X G c0 s H locs σ) (ha : xt σ a = 8) (hw : Cond.fieldLink own index ref "place" "I" ∈ kt_) (hsm : ∀ x, s.fieldFound? "LogRiver$Log" "place" "I" = some x → s.fieldFound? ref "place" "I" = some x) (hdg : decode cc pc = .ok (.putfield index, 3)) (kk : ∀ (H1 : Heap) (locs1 : List Loc), kx_X G c0 s H1 locs1 (xsi σ 132 a x) → kx_W p l e fr lo c0 s m args below meth c H1 locs1 (xsi σ 132 a x) Q (F0 m (pc + 3) ls rest)) : kx_W p l e fr lo c0 s m args below meth c H locs σ Q (F0 m pc ls (.int x :: .ref a :: rest)) :=
  kx_put (k := 4) (τ := xsi σ 132 a x) (ty := .int) (ty0 := tyX6) F C (by rw [ha]; decide) (kx_e8 ha) kx_inX6 tyX6_ok nmX6 rfl (by decide) hw hsm rfl (by decide +kernel) rfl rfl (Nat.le_of_ble_eq_true rfl) (fun b => by
    by_cases hb : b = a
    · rw [hb, va_up_self, kx_e8 (show xt (xsi σ 132 a x) a = 8 from ha)]
      have e9 : xi (xsi σ 132 a x) 132 a = x := va_up_self _ a x
      show _ = Sum.inr (7, _)
      rw [e9]
      rfl
    · rw [va_up_ne _ _ hb, kx_nsi hb]) (fun _ h => h) rfl rfl hdg kk
theorem xg_X6_reach {ref : String} {a : Nat} (F : CallFix p m c cc nL s args kt_ own) (C : kx_X G c0 s H locs σ) (ha : xt σ a = 8) (hw : Cond.fieldLink own index ref "reach" "I" ∈ kt_) (hsm : ∀ x, s.fieldFound? "LogRiver$Log" "reach" "I" = some x → s.fieldFound? ref "reach" "I" = some x) (hdg : decode cc pc = .ok (.getfield index, 3)) (kk : kx_W p l e fr lo c0 s m args below meth c H locs σ Q (F0 m (pc + 3) ls (.int (xi σ 133 a) :: rest))) : kx_W p l e fr lo c0 s m args below meth c H locs σ Q (F0 m pc ls (.ref a :: rest)) :=
  kx_get (k := 5) (v := .int (xi σ 133 a)) F C (by rw [ha]; decide) (kx_e8 ha) kx_inX6 rfl (by decide) hw hsm rfl hdg kk
theorem xp_X6_reach {ref : String} {a : Nat} {x : Int32} (F : CallFix p m c cc nL s args kt_ own) (C : kx_X G c0 s H locs σ) (ha : xt σ a = 8) (hw : Cond.fieldLink own index ref "reach" "I" ∈ kt_) (hsm : ∀ x, s.fieldFound? "LogRiver$Log" "reach" "I" = some x → s.fieldFound? ref "reach" "I" = some x) (hdg : decode cc pc = .ok (.putfield index, 3)) (kk : ∀ (H1 : Heap) (locs1 : List Loc), kx_X G c0 s H1 locs1 (xsi σ 133 a x) → kx_W p l e fr lo c0 s m args below meth c H1 locs1 (xsi σ 133 a x) Q (F0 m (pc + 3) ls rest)) : kx_W p l e fr lo c0 s m args below meth c H locs σ Q (F0 m pc ls (.int x :: .ref a :: rest)) :=
  kx_put (k := 5) (τ := xsi σ 133 a x) (ty := .int) (ty0 := tyX6) F C (by rw [ha]; decide) (kx_e8 ha) kx_inX6 tyX6_ok nmX6 rfl (by decide) hw hsm rfl (by decide +kernel) rfl rfl (Nat.le_of_ble_eq_true rfl) (fun b => by
    by_cases hb : b = a
    · rw [hb, va_up_self, kx_e8 (show xt (xsi σ 133 a x) a = 8 from ha)]
      have e9 : xi (xsi σ 133 a x) 133 a = x := va_up_self _ a x
      show _ = Sum.inr (7, _)
      rw [e9]
      rfl
    · rw [va_up_ne _ _ hb, kx_nsi hb]) (fun _ h => h) rfl rfl hdg kk
theorem xg_X6_cell {ref : String} {a : Nat} (F : CallFix p m c cc nL s args kt_ own) (C : kx_X G c0 s H locs σ) (ha : xt σ a = 8) (hw : Cond.fieldLink own index ref "cell" "I" ∈ kt_) (hsm : ∀ x, s.fieldFound? "LogRiver$Log" "cell" "I" = some x → s.fieldFound? ref "cell" "I" = some x) (hdg : decode cc pc = .ok (.getfield index, 3)) (kk : kx_W p l e fr lo c0 s m args below meth c H locs σ Q (F0 m (pc + 3) ls (.int (xi σ 134 a) :: rest))) : kx_W p l e fr lo c0 s m args below meth c H locs σ Q (F0 m pc ls (.ref a :: rest)) :=
  kx_get (k := 6) (v := .int (xi σ 134 a)) F C (by rw [ha]; decide) (kx_e8 ha) kx_inX6 rfl (by decide) hw hsm rfl hdg kk
theorem xp_X6_cell {ref : String} {a : Nat} {x : Int32} (F : CallFix p m c cc nL s args kt_ own) (C : kx_X G c0 s H locs σ) (ha : xt σ a = 8) (hw : Cond.fieldLink own index ref "cell" "I" ∈ kt_) (hsm : ∀ x, s.fieldFound? "LogRiver$Log" "cell" "I" = some x → s.fieldFound? ref "cell" "I" = some x) (hdg : decode cc pc = .ok (.putfield index, 3)) (kk : ∀ (H1 : Heap) (locs1 : List Loc), kx_X G c0 s H1 locs1 (xsi σ 134 a x) → kx_W p l e fr lo c0 s m args below meth c H1 locs1 (xsi σ 134 a x) Q (F0 m (pc + 3) ls rest)) : kx_W p l e fr lo c0 s m args below meth c H locs σ Q (F0 m pc ls (.int x :: .ref a :: rest)) :=
  kx_put (k := 6) (τ := xsi σ 134 a x) (ty := .int) (ty0 := tyX6) F C (by rw [ha]; decide) (kx_e8 ha) kx_inX6 tyX6_ok nmX6 rfl (by decide) hw hsm rfl (by decide +kernel) rfl rfl (Nat.le_of_ble_eq_true rfl) (fun b => by
    by_cases hb : b = a
    · rw [hb, va_up_self, kx_e8 (show xt (xsi σ 134 a x) a = 8 from ha)]
      have e9 : xi (xsi σ 134 a x) 134 a = x := va_up_self _ a x
      show _ = Sum.inr (7, _)
      rw [e9]
      rfl
    · rw [va_up_ne _ _ hb, kx_nsi hb]) (fun _ h => h) rfl rfl hdg kk
theorem xg_X6_age {ref : String} {a : Nat} (F : CallFix p m c cc nL s args kt_ own) (C : kx_X G c0 s H locs σ) (ha : xt σ a = 8) (hw : Cond.fieldLink own index ref "age" "I" ∈ kt_) (hsm : ∀ x, s.fieldFound? "LogRiver$Log" "age" "I" = some x → s.fieldFound? ref "age" "I" = some x) (hdg : decode cc pc = .ok (.getfield index, 3)) (kk : kx_W p l e fr lo c0 s m args below meth c H locs σ Q (F0 m (pc + 3) ls (.int (xi σ 135 a) :: rest))) : kx_W p l e fr lo c0 s m args below meth c H locs σ Q (F0 m pc ls (.ref a :: rest)) :=
  kx_get (k := 7) (v := .int (xi σ 135 a)) F C (by rw [ha]; decide) (kx_e8 ha) kx_inX6 rfl (by decide) hw hsm rfl hdg kk
theorem xp_X6_age {ref : String} {a : Nat} {x : Int32} (F : CallFix p m c cc nL s args kt_ own) (C : kx_X G c0 s H locs σ) (ha : xt σ a = 8) (hw : Cond.fieldLink own index ref "age" "I" ∈ kt_) (hsm : ∀ x, s.fieldFound? "LogRiver$Log" "age" "I" = some x → s.fieldFound? ref "age" "I" = some x) (hdg : decode cc pc = .ok (.putfield index, 3)) (kk : ∀ (H1 : Heap) (locs1 : List Loc), kx_X G c0 s H1 locs1 (xsi σ 135 a x) → kx_W p l e fr lo c0 s m args below meth c H1 locs1 (xsi σ 135 a x) Q (F0 m (pc + 3) ls rest)) : kx_W p l e fr lo c0 s m args below meth c H locs σ Q (F0 m pc ls (.int x :: .ref a :: rest)) :=
  kx_put (k := 7) (τ := xsi σ 135 a x) (ty := .int) (ty0 := tyX6) F C (by rw [ha]; decide) (kx_e8 ha) kx_inX6 tyX6_ok nmX6 rfl (by decide) hw hsm rfl (by decide +kernel) rfl rfl (Nat.le_of_ble_eq_true rfl) (fun b => by
    by_cases hb : b = a
    · rw [hb, va_up_self, kx_e8 (show xt (xsi σ 135 a x) a = 8 from ha)]
      have e9 : xi (xsi σ 135 a x) 135 a = x := va_up_self _ a x
      show _ = Sum.inr (7, _)
      rw [e9]
      rfl
    · rw [va_up_ne _ _ hb, kx_nsi hb]) (fun _ h => h) rfl rfl hdg kk
theorem xg_X6_firstBoard {ref : String} {a : Nat} (F : CallFix p m c cc nL s args kt_ own) (C : kx_X G c0 s H locs σ) (ha : xt σ a = 8) (hw : Cond.fieldLink own index ref "firstBoard" "I" ∈ kt_) (hsm : ∀ x, s.fieldFound? "LogRiver$Log" "firstBoard" "I" = some x → s.fieldFound? ref "firstBoard" "I" = some x) (hdg : decode cc pc = .ok (.getfield index, 3)) (kk : kx_W p l e fr lo c0 s m args below meth c H locs σ Q (F0 m (pc + 3) ls (.int (xi σ 136 a) :: rest))) : kx_W p l e fr lo c0 s m args below meth c H locs σ Q (F0 m pc ls (.ref a :: rest)) :=
  kx_get (k := 8) (v := .int (xi σ 136 a)) F C (by rw [ha]; decide) (kx_e8 ha) kx_inX6 rfl (by decide) hw hsm rfl hdg kk
theorem xp_X6_firstBoard {ref : String} {a : Nat} {x : Int32} (F : CallFix p m c cc nL s args kt_ own) (C : kx_X G c0 s H locs σ) (ha : xt σ a = 8) (hw : Cond.fieldLink own index ref "firstBoard" "I" ∈ kt_) (hsm : ∀ x, s.fieldFound? "LogRiver$Log" "firstBoard" "I" = some x → s.fieldFound? ref "firstBoard" "I" = some x) (hdg : decode cc pc = .ok (.putfield index, 3)) (kk : ∀ (H1 : Heap) (locs1 : List Loc), kx_X G c0 s H1 locs1 (xsi σ 136 a x) → kx_W p l e fr lo c0 s m args below meth c H1 locs1 (xsi σ 136 a x) Q (F0 m (pc + 3) ls rest)) : kx_W p l e fr lo c0 s m args below meth c H locs σ Q (F0 m pc ls (.int x :: .ref a :: rest)) :=
  kx_put (k := 8) (τ := xsi σ 136 a x) (ty := .int) (ty0 := tyX6) F C (by rw [ha]; decide) (kx_e8 ha) kx_inX6 tyX6_ok nmX6 rfl (by decide) hw hsm rfl (by decide +kernel) rfl rfl (Nat.le_of_ble_eq_true rfl) (fun b => by
    by_cases hb : b = a
    · rw [hb, va_up_self, kx_e8 (show xt (xsi σ 136 a x) a = 8 from ha)]
      have e9 : xi (xsi σ 136 a x) 136 a = x := va_up_self _ a x
      show _ = Sum.inr (7, _)
      rw [e9]
      rfl
    · rw [va_up_ne _ _ hb, kx_nsi hb]) (fun _ h => h) rfl rfl hdg kk
theorem xw_X6 (F : CallFix p m c cc nL s args kt_ own) (C : kx_X G c0 s H locs σ) (hN : xc σ < kx_N) (hcl : Cond.classLink own index RX6 ∈ kt_) (hdg : decode cc pc = .ok (.new index, 3)) (kk : ∀ (q : Nat) (H1 : Heap), xt σ q = 0 → q ≠ kx_z G → kx_X G c0 s H1 locs (xnew σ q 8) → kx_W p l e fr lo c0 s m args below meth c H1 locs (xnew σ q 8) Q (F0 m (pc + 3) ls (.ref q :: rest))) : kx_W p l e fr lo c0 s m args below meth c H locs σ Q (F0 m pc ls rest) :=
  kx_new (ci := 7) (fs := [.int 0, .int 0, .int 0, .int 0, .int 0, .int 0, .int 0, .int 0, .int 0]) (tag := 8) F C hN kx_inX6 tyX6_ok hcl ux_69 ux_70 rfl kx_dfX6 (by decide) (fun q => by
    rw [kx_e8 (show xt (xnew σ q 8) q = 8 from va_up_self _ _ _)]
    simp only [xi, xr, xl, xnew, va_up_self, va_rf]) hdg kk
theorem xg_X7_mark {ref : String} {a : Nat} (F : CallFix p m c cc nL s args kt_ own) (C : kx_X G c0 s H locs σ) (ha : xt σ a = 9) (hw : Cond.fieldLink own index ref "mark" "I" ∈ kt_) (hsm : ∀ x, s.fieldFound? "LogRiver$Order" "mark" "I" = some x → s.fieldFound? ref "mark" "I" = some x) (hdg : decode cc pc = .ok (.getfield index, 3)) (kk : kx_W p l e fr lo c0 s m args below meth c H locs σ Q (F0 m (pc + 3) ls (.int (xi σ 144 a) :: rest))) : kx_W p l e fr lo c0 s m args below meth c H locs σ Q (F0 m pc ls (.ref a :: rest)) :=
  kx_get (k := 0) (v := .int (xi σ 144 a)) F C (by rw [ha]; decide) (kx_e9 ha) kx_inX7 rfl (by decide) hw hsm rfl hdg kk
theorem xp_X7_mark {ref : String} {a : Nat} {x : Int32} (F : CallFix p m c cc nL s args kt_ own) (C : kx_X G c0 s H locs σ) (ha : xt σ a = 9) (hw : Cond.fieldLink own index ref "mark" "I" ∈ kt_) (hsm : ∀ x, s.fieldFound? "LogRiver$Order" "mark" "I" = some x → s.fieldFound? ref "mark" "I" = some x) (hini : meth.name = "<init>") (hdecl : "LogRiver$Order" = own) (hdg : decode cc pc = .ok (.putfield index, 3)) (kk : ∀ (H1 : Heap) (locs1 : List Loc), kx_X G c0 s H1 locs1 (xsi σ 144 a x) → kx_W p l e fr lo c0 s m args below meth c H1 locs1 (xsi σ 144 a x) Q (F0 m (pc + 3) ls rest)) : kx_W p l e fr lo c0 s m args below meth c H locs σ Q (F0 m pc ls (.int x :: .ref a :: rest)) :=
  kx_putF (k := 0) (τ := xsi σ 144 a x) (ty := .int) (ty0 := tyX7) F C (by rw [ha]; decide) (kx_e9 ha) kx_inX7 tyX7_ok nmX7 rfl (by decide) hw hsm rfl hini hdecl (by decide +kernel) rfl rfl (Nat.le_of_ble_eq_true rfl) (fun b => by
    by_cases hb : b = a
    · rw [hb, va_up_self, kx_e9 (show xt (xsi σ 144 a x) a = 9 from ha)]
      have e9 : xi (xsi σ 144 a x) 144 a = x := va_up_self _ a x
      show _ = Sum.inr (8, _)
      rw [e9]
      rfl
    · rw [va_up_ne _ _ hb, kx_nsi hb]) (fun _ h => h) rfl rfl hdg kk
theorem xg_X7_size {ref : String} {a : Nat} (F : CallFix p m c cc nL s args kt_ own) (C : kx_X G c0 s H locs σ) (ha : xt σ a = 9) (hw : Cond.fieldLink own index ref "size" "I" ∈ kt_) (hsm : ∀ x, s.fieldFound? "LogRiver$Order" "size" "I" = some x → s.fieldFound? ref "size" "I" = some x) (hdg : decode cc pc = .ok (.getfield index, 3)) (kk : kx_W p l e fr lo c0 s m args below meth c H locs σ Q (F0 m (pc + 3) ls (.int (xi σ 145 a) :: rest))) : kx_W p l e fr lo c0 s m args below meth c H locs σ Q (F0 m pc ls (.ref a :: rest)) :=
  kx_get (k := 1) (v := .int (xi σ 145 a)) F C (by rw [ha]; decide) (kx_e9 ha) kx_inX7 rfl (by decide) hw hsm rfl hdg kk
theorem xp_X7_size {ref : String} {a : Nat} {x : Int32} (F : CallFix p m c cc nL s args kt_ own) (C : kx_X G c0 s H locs σ) (ha : xt σ a = 9) (hw : Cond.fieldLink own index ref "size" "I" ∈ kt_) (hsm : ∀ x, s.fieldFound? "LogRiver$Order" "size" "I" = some x → s.fieldFound? ref "size" "I" = some x) (hini : meth.name = "<init>") (hdecl : "LogRiver$Order" = own) (hdg : decode cc pc = .ok (.putfield index, 3)) (kk : ∀ (H1 : Heap) (locs1 : List Loc), kx_X G c0 s H1 locs1 (xsi σ 145 a x) → kx_W p l e fr lo c0 s m args below meth c H1 locs1 (xsi σ 145 a x) Q (F0 m (pc + 3) ls rest)) : kx_W p l e fr lo c0 s m args below meth c H locs σ Q (F0 m pc ls (.int x :: .ref a :: rest)) :=
  kx_putF (k := 1) (τ := xsi σ 145 a x) (ty := .int) (ty0 := tyX7) F C (by rw [ha]; decide) (kx_e9 ha) kx_inX7 tyX7_ok nmX7 rfl (by decide) hw hsm rfl hini hdecl (by decide +kernel) rfl rfl (Nat.le_of_ble_eq_true rfl) (fun b => by
    by_cases hb : b = a
    · rw [hb, va_up_self, kx_e9 (show xt (xsi σ 145 a x) a = 9 from ha)]
      have e9 : xi (xsi σ 145 a x) 145 a = x := va_up_self _ a x
      show _ = Sum.inr (8, _)
      rw [e9]
      rfl
    · rw [va_up_ne _ _ hb, kx_nsi hb]) (fun _ h => h) rfl rfl hdg kk
theorem xg_X7_wanted {ref : String} {a : Nat} (F : CallFix p m c cc nL s args kt_ own) (C : kx_X G c0 s H locs σ) (ha : xt σ a = 9) (hw : Cond.fieldLink own index ref "wanted" "I" ∈ kt_) (hsm : ∀ x, s.fieldFound? "LogRiver$Order" "wanted" "I" = some x → s.fieldFound? ref "wanted" "I" = some x) (hdg : decode cc pc = .ok (.getfield index, 3)) (kk : kx_W p l e fr lo c0 s m args below meth c H locs σ Q (F0 m (pc + 3) ls (.int (xi σ 146 a) :: rest))) : kx_W p l e fr lo c0 s m args below meth c H locs σ Q (F0 m pc ls (.ref a :: rest)) :=
  kx_get (k := 2) (v := .int (xi σ 146 a)) F C (by rw [ha]; decide) (kx_e9 ha) kx_inX7 rfl (by decide) hw hsm rfl hdg kk
theorem xp_X7_wanted {ref : String} {a : Nat} {x : Int32} (F : CallFix p m c cc nL s args kt_ own) (C : kx_X G c0 s H locs σ) (ha : xt σ a = 9) (hw : Cond.fieldLink own index ref "wanted" "I" ∈ kt_) (hsm : ∀ x, s.fieldFound? "LogRiver$Order" "wanted" "I" = some x → s.fieldFound? ref "wanted" "I" = some x) (hdg : decode cc pc = .ok (.putfield index, 3)) (kk : ∀ (H1 : Heap) (locs1 : List Loc), kx_X G c0 s H1 locs1 (xsi σ 146 a x) → kx_W p l e fr lo c0 s m args below meth c H1 locs1 (xsi σ 146 a x) Q (F0 m (pc + 3) ls rest)) : kx_W p l e fr lo c0 s m args below meth c H locs σ Q (F0 m pc ls (.int x :: .ref a :: rest)) :=
  kx_put (k := 2) (τ := xsi σ 146 a x) (ty := .int) (ty0 := tyX7) F C (by rw [ha]; decide) (kx_e9 ha) kx_inX7 tyX7_ok nmX7 rfl (by decide) hw hsm rfl (by decide +kernel) rfl rfl (Nat.le_of_ble_eq_true rfl) (fun b => by
    by_cases hb : b = a
    · rw [hb, va_up_self, kx_e9 (show xt (xsi σ 146 a x) a = 9 from ha)]
      have e9 : xi (xsi σ 146 a x) 146 a = x := va_up_self _ a x
      show _ = Sum.inr (8, _)
      rw [e9]
      rfl
    · rw [va_up_ne _ _ hb, kx_nsi hb]) (fun _ h => h) rfl rfl hdg kk
theorem xw_X7 (F : CallFix p m c cc nL s args kt_ own) (C : kx_X G c0 s H locs σ) (hN : xc σ < kx_N) (hcl : Cond.classLink own index RX7 ∈ kt_) (hdg : decode cc pc = .ok (.new index, 3)) (kk : ∀ (q : Nat) (H1 : Heap), xt σ q = 0 → q ≠ kx_z G → kx_X G c0 s H1 locs (xnew σ q 9) → kx_W p l e fr lo c0 s m args below meth c H1 locs (xnew σ q 9) Q (F0 m (pc + 3) ls (.ref q :: rest))) : kx_W p l e fr lo c0 s m args below meth c H locs σ Q (F0 m pc ls rest) :=
  kx_new (ci := 8) (fs := [.int 0, .int 0, .int 0]) (tag := 9) F C hN kx_inX7 tyX7_ok hcl ux_74 ux_75 rfl kx_dfX7 (by decide) (fun q => by
    rw [kx_e9 (show xt (xnew σ q 9) q = 9 from va_up_self _ _ _)]
    simp only [xi, xr, xl, xnew, va_up_self, va_rf]) hdg kk
theorem xg_X8_number {ref : String} {a : Nat} (F : CallFix p m c cc nL s args kt_ own) (C : kx_X G c0 s H locs σ) (ha : xt σ a = 10) (hw : Cond.fieldLink own index ref "number" "I" ∈ kt_) (hsm : ∀ x, s.fieldFound? "LogRiver$Reach" "number" "I" = some x → s.fieldFound? ref "number" "I" = some x) (hdg : decode cc pc = .ok (.getfield index, 3)) (kk : kx_W p l e fr lo c0 s m args below meth c H locs σ Q (F0 m (pc + 3) ls (.int (xi σ 160 a) :: rest))) : kx_W p l e fr lo c0 s m args below meth c H locs σ Q (F0 m pc ls (.ref a :: rest)) :=
  kx_get (k := 0) (v := .int (xi σ 160 a)) F C (by rw [ha]; decide) (kx_e10 ha) kx_inX8 rfl (by decide) hw hsm rfl hdg kk
theorem xp_X8_number {ref : String} {a : Nat} {x : Int32} (F : CallFix p m c cc nL s args kt_ own) (C : kx_X G c0 s H locs σ) (ha : xt σ a = 10) (hw : Cond.fieldLink own index ref "number" "I" ∈ kt_) (hsm : ∀ x, s.fieldFound? "LogRiver$Reach" "number" "I" = some x → s.fieldFound? ref "number" "I" = some x) (hini : meth.name = "<init>") (hdecl : "LogRiver$Reach" = own) (hdg : decode cc pc = .ok (.putfield index, 3)) (kk : ∀ (H1 : Heap) (locs1 : List Loc), kx_X G c0 s H1 locs1 (xsi σ 160 a x) → kx_W p l e fr lo c0 s m args below meth c H1 locs1 (xsi σ 160 a x) Q (F0 m (pc + 3) ls rest)) : kx_W p l e fr lo c0 s m args below meth c H locs σ Q (F0 m pc ls (.int x :: .ref a :: rest)) :=
  kx_putF (k := 0) (τ := xsi σ 160 a x) (ty := .int) (ty0 := tyX8) F C (by rw [ha]; decide) (kx_e10 ha) kx_inX8 tyX8_ok nmX8 rfl (by decide) hw hsm rfl hini hdecl (by decide +kernel) rfl rfl (Nat.le_of_ble_eq_true rfl) (fun b => by
    by_cases hb : b = a
    · rw [hb, va_up_self, kx_e10 (show xt (xsi σ 160 a x) a = 10 from ha)]
      have e9 : xi (xsi σ 160 a x) 160 a = x := va_up_self _ a x
      show _ = Sum.inr (9, _)
      rw [e9]
      rfl
    · rw [va_up_ne _ _ hb, kx_nsi hb]) (fun _ h => h) rfl rfl hdg kk
theorem xg_X8_below {ref : String} {a : Nat} (F : CallFix p m c cc nL s args kt_ own) (C : kx_X G c0 s H locs σ) (ha : xt σ a = 10) (hw : Cond.fieldLink own index ref "below" "LLogRiver$Reach;" ∈ kt_) (hsm : ∀ x, s.fieldFound? "LogRiver$Reach" "below" "LLogRiver$Reach;" = some x → s.fieldFound? ref "below" "LLogRiver$Reach;" = some x) (hdg : decode cc pc = .ok (.getfield index, 3)) (kk : kx_W p l e fr lo c0 s m args below meth c H locs σ Q (F0 m (pc + 3) ls (va_rf (xr σ 161 a) :: rest))) : kx_W p l e fr lo c0 s m args below meth c H locs σ Q (F0 m pc ls (.ref a :: rest)) :=
  kx_get (k := 1) (v := va_rf (xr σ 161 a)) F C (by rw [ha]; decide) (kx_e10 ha) kx_inX8 rfl (by decide) hw hsm rfl hdg kk
theorem xp_X8_below {ref : String} {a : Nat} {x : Option Nat} (F : CallFix p m c cc nL s args kt_ own) (C : kx_X G c0 s H locs σ) (ha : xt σ a = 10) (hw : Cond.fieldLink own index ref "below" "LLogRiver$Reach;" ∈ kt_) (hsm : ∀ x, s.fieldFound? "LogRiver$Reach" "below" "LLogRiver$Reach;" = some x → s.fieldFound? ref "below" "LLogRiver$Reach;" = some x) (hini : meth.name = "<init>") (hdecl : "LogRiver$Reach" = own) (hdg : decode cc pc = .ok (.putfield index, 3)) (kk : ∀ (H1 : Heap) (locs1 : List Loc), kx_X G c0 s H1 locs1 (xsr σ 161 a x) → kx_W p l e fr lo c0 s m args below meth c H1 locs1 (xsr σ 161 a x) Q (F0 m (pc + 3) ls rest)) : kx_W p l e fr lo c0 s m args below meth c H locs σ Q (F0 m pc ls (va_rf x :: .ref a :: rest)) :=
  kx_putF (k := 1) (τ := xsr σ 161 a x) (ty := .object "LogRiver$Reach") (ty0 := tyX8) F C (by rw [ha]; decide) (kx_e10 ha) kx_inX8 tyX8_ok nmX8 rfl (by decide) hw hsm rfl hini hdecl (by decide +kernel) (by cases x <;> rfl) (by cases x <;> rfl) (Nat.le_of_ble_eq_true rfl) (fun b => by
    by_cases hb : b = a
    · rw [hb, va_up_self, kx_e10 (show xt (xsr σ 161 a x) a = 10 from ha)]
      have e9 : xr (xsr σ 161 a x) 161 a = x := va_up_self _ a x
      show _ = Sum.inr (9, _)
      rw [e9]
      rfl
    · rw [va_up_ne _ _ hb, kx_nsr hb]) (fun _ h => h) rfl rfl hdg kk
theorem xg_X8_jam {ref : String} {a : Nat} (F : CallFix p m c cc nL s args kt_ own) (C : kx_X G c0 s H locs σ) (ha : xt σ a = 10) (hw : Cond.fieldLink own index ref "jam" "I" ∈ kt_) (hsm : ∀ x, s.fieldFound? "LogRiver$Reach" "jam" "I" = some x → s.fieldFound? ref "jam" "I" = some x) (hdg : decode cc pc = .ok (.getfield index, 3)) (kk : kx_W p l e fr lo c0 s m args below meth c H locs σ Q (F0 m (pc + 3) ls (.int (xi σ 162 a) :: rest))) : kx_W p l e fr lo c0 s m args below meth c H locs σ Q (F0 m pc ls (.ref a :: rest)) :=
  kx_get (k := 2) (v := .int (xi σ 162 a)) F C (by rw [ha]; decide) (kx_e10 ha) kx_inX8 rfl (by decide) hw hsm rfl hdg kk
theorem xp_X8_jam {ref : String} {a : Nat} {x : Int32} (F : CallFix p m c cc nL s args kt_ own) (C : kx_X G c0 s H locs σ) (ha : xt σ a = 10) (hw : Cond.fieldLink own index ref "jam" "I" ∈ kt_) (hsm : ∀ x, s.fieldFound? "LogRiver$Reach" "jam" "I" = some x → s.fieldFound? ref "jam" "I" = some x) (hini : meth.name = "<init>") (hdecl : "LogRiver$Reach" = own) (hdg : decode cc pc = .ok (.putfield index, 3)) (kk : ∀ (H1 : Heap) (locs1 : List Loc), kx_X G c0 s H1 locs1 (xsi σ 162 a x) → kx_W p l e fr lo c0 s m args below meth c H1 locs1 (xsi σ 162 a x) Q (F0 m (pc + 3) ls rest)) : kx_W p l e fr lo c0 s m args below meth c H locs σ Q (F0 m pc ls (.int x :: .ref a :: rest)) :=
  kx_putF (k := 2) (τ := xsi σ 162 a x) (ty := .int) (ty0 := tyX8) F C (by rw [ha]; decide) (kx_e10 ha) kx_inX8 tyX8_ok nmX8 rfl (by decide) hw hsm rfl hini hdecl (by decide +kernel) rfl rfl (Nat.le_of_ble_eq_true rfl) (fun b => by
    by_cases hb : b = a
    · rw [hb, va_up_self, kx_e10 (show xt (xsi σ 162 a x) a = 10 from ha)]
      have e9 : xi (xsi σ 162 a x) 162 a = x := va_up_self _ a x
      show _ = Sum.inr (9, _)
      rw [e9]
      rfl
    · rw [va_up_ne _ _ hb, kx_nsi hb]) (fun _ h => h) rfl rfl hdg kk
theorem xg_X8_cells {ref : String} {a : Nat} (F : CallFix p m c cc nL s args kt_ own) (C : kx_X G c0 s H locs σ) (ha : xt σ a = 10) (hw : Cond.fieldLink own index ref "cells" "Ljava/util/List;" ∈ kt_) (hsm : ∀ x, s.fieldFound? "LogRiver$Reach" "cells" "Ljava/util/List;" = some x → s.fieldFound? ref "cells" "Ljava/util/List;" = some x) (hdg : decode cc pc = .ok (.getfield index, 3)) (kk : kx_W p l e fr lo c0 s m args below meth c H locs σ Q (F0 m (pc + 3) ls (va_rf (xr σ 163 a) :: rest))) : kx_W p l e fr lo c0 s m args below meth c H locs σ Q (F0 m pc ls (.ref a :: rest)) :=
  kx_get (k := 3) (v := va_rf (xr σ 163 a)) F C (by rw [ha]; decide) (kx_e10 ha) kx_inX8 rfl (by decide) hw hsm rfl hdg kk
theorem xp_X8_cells {ref : String} {a : Nat} {x : Option Nat} (F : CallFix p m c cc nL s args kt_ own) (C : kx_X G c0 s H locs σ) (ha : xt σ a = 10) (hw : Cond.fieldLink own index ref "cells" "Ljava/util/List;" ∈ kt_) (hsm : ∀ x, s.fieldFound? "LogRiver$Reach" "cells" "Ljava/util/List;" = some x → s.fieldFound? ref "cells" "Ljava/util/List;" = some x) (hini : meth.name = "<init>") (hdecl : "LogRiver$Reach" = own) (hdg : decode cc pc = .ok (.putfield index, 3)) (kk : ∀ (H1 : Heap) (locs1 : List Loc), kx_X G c0 s H1 locs1 (xsr σ 163 a x) → kx_W p l e fr lo c0 s m args below meth c H1 locs1 (xsr σ 163 a x) Q (F0 m (pc + 3) ls rest)) : kx_W p l e fr lo c0 s m args below meth c H locs σ Q (F0 m pc ls (va_rf x :: .ref a :: rest)) :=
  kx_putF (k := 3) (τ := xsr σ 163 a x) (ty := .object "java/util/List") (ty0 := tyX8) F C (by rw [ha]; decide) (kx_e10 ha) kx_inX8 tyX8_ok nmX8 rfl (by decide) hw hsm rfl hini hdecl (by decide +kernel) (by cases x <;> rfl) (by cases x <;> rfl) (Nat.le_of_ble_eq_true rfl) (fun b => by
    by_cases hb : b = a
    · rw [hb, va_up_self, kx_e10 (show xt (xsr σ 163 a x) a = 10 from ha)]
      have e9 : xr (xsr σ 163 a x) 163 a = x := va_up_self _ a x
      show _ = Sum.inr (9, _)
      rw [e9]
      rfl
    · rw [va_up_ne _ _ hb, kx_nsr hb]) (fun _ h => h) rfl rfl hdg kk
theorem xg_X8_melt {ref : String} {a : Nat} (F : CallFix p m c cc nL s args kt_ own) (C : kx_X G c0 s H locs σ) (ha : xt σ a = 10) (hw : Cond.fieldLink own index ref "melt" "I" ∈ kt_) (hsm : ∀ x, s.fieldFound? "LogRiver$Reach" "melt" "I" = some x → s.fieldFound? ref "melt" "I" = some x) (hdg : decode cc pc = .ok (.getfield index, 3)) (kk : kx_W p l e fr lo c0 s m args below meth c H locs σ Q (F0 m (pc + 3) ls (.int (xi σ 164 a) :: rest))) : kx_W p l e fr lo c0 s m args below meth c H locs σ Q (F0 m pc ls (.ref a :: rest)) :=
  kx_get (k := 4) (v := .int (xi σ 164 a)) F C (by rw [ha]; decide) (kx_e10 ha) kx_inX8 rfl (by decide) hw hsm rfl hdg kk
theorem xp_X8_melt {ref : String} {a : Nat} {x : Int32} (F : CallFix p m c cc nL s args kt_ own) (C : kx_X G c0 s H locs σ) (ha : xt σ a = 10) (hw : Cond.fieldLink own index ref "melt" "I" ∈ kt_) (hsm : ∀ x, s.fieldFound? "LogRiver$Reach" "melt" "I" = some x → s.fieldFound? ref "melt" "I" = some x) (hdg : decode cc pc = .ok (.putfield index, 3)) (kk : ∀ (H1 : Heap) (locs1 : List Loc), kx_X G c0 s H1 locs1 (xsi σ 164 a x) → kx_W p l e fr lo c0 s m args below meth c H1 locs1 (xsi σ 164 a x) Q (F0 m (pc + 3) ls rest)) : kx_W p l e fr lo c0 s m args below meth c H locs σ Q (F0 m pc ls (.int x :: .ref a :: rest)) :=
  kx_put (k := 4) (τ := xsi σ 164 a x) (ty := .int) (ty0 := tyX8) F C (by rw [ha]; decide) (kx_e10 ha) kx_inX8 tyX8_ok nmX8 rfl (by decide) hw hsm rfl (by decide +kernel) rfl rfl (Nat.le_of_ble_eq_true rfl) (fun b => by
    by_cases hb : b = a
    · rw [hb, va_up_self, kx_e10 (show xt (xsi σ 164 a x) a = 10 from ha)]
      have e9 : xi (xsi σ 164 a x) 164 a = x := va_up_self _ a x
      show _ = Sum.inr (9, _)
      rw [e9]
      rfl
    · rw [va_up_ne _ _ hb, kx_nsi hb]) (fun _ h => h) rfl rfl hdg kk
theorem xg_X8_dammed {ref : String} {a : Nat} (F : CallFix p m c cc nL s args kt_ own) (C : kx_X G c0 s H locs σ) (ha : xt σ a = 10) (hw : Cond.fieldLink own index ref "dammed" "Z" ∈ kt_) (hsm : ∀ x, s.fieldFound? "LogRiver$Reach" "dammed" "Z" = some x → s.fieldFound? ref "dammed" "Z" = some x) (hdg : decode cc pc = .ok (.getfield index, 3)) (kk : kx_W p l e fr lo c0 s m args below meth c H locs σ Q (F0 m (pc + 3) ls (.int (xi σ 165 a) :: rest))) : kx_W p l e fr lo c0 s m args below meth c H locs σ Q (F0 m pc ls (.ref a :: rest)) :=
  kx_get (k := 5) (v := .int (xi σ 165 a)) F C (by rw [ha]; decide) (kx_e10 ha) kx_inX8 rfl (by decide) hw hsm rfl hdg kk
theorem xp_X8_dammed {ref : String} {a : Nat} {x : Int32} (F : CallFix p m c cc nL s args kt_ own) (C : kx_X G c0 s H locs σ) (ha : xt σ a = 10) (hz : narrow .boolean (.int x) = .int x ∧ fits .boolean (.int x) = true) (hw : Cond.fieldLink own index ref "dammed" "Z" ∈ kt_) (hsm : ∀ x, s.fieldFound? "LogRiver$Reach" "dammed" "Z" = some x → s.fieldFound? ref "dammed" "Z" = some x) (hdg : decode cc pc = .ok (.putfield index, 3)) (kk : ∀ (H1 : Heap) (locs1 : List Loc), kx_X G c0 s H1 locs1 (xsi σ 165 a x) → kx_W p l e fr lo c0 s m args below meth c H1 locs1 (xsi σ 165 a x) Q (F0 m (pc + 3) ls rest)) : kx_W p l e fr lo c0 s m args below meth c H locs σ Q (F0 m pc ls (.int x :: .ref a :: rest)) :=
  kx_put (k := 5) (τ := xsi σ 165 a x) (ty := .boolean) (ty0 := tyX8) F C (by rw [ha]; decide) (kx_e10 ha) kx_inX8 tyX8_ok nmX8 rfl (by decide) hw hsm rfl (by decide +kernel) hz.1 hz.2 (Nat.le_of_ble_eq_true rfl) (fun b => by
    by_cases hb : b = a
    · rw [hb, va_up_self, kx_e10 (show xt (xsi σ 165 a x) a = 10 from ha)]
      have e9 : xi (xsi σ 165 a x) 165 a = x := va_up_self _ a x
      show _ = Sum.inr (9, _)
      rw [e9]
      rfl
    · rw [va_up_ne _ _ hb, kx_nsi hb]) (fun _ h => h) rfl rfl hdg kk
theorem xg_X8_room {ref : String} {a : Nat} (F : CallFix p m c cc nL s args kt_ own) (C : kx_X G c0 s H locs σ) (ha : xt σ a = 10) (hw : Cond.fieldLink own index ref "room" "I" ∈ kt_) (hsm : ∀ x, s.fieldFound? "LogRiver$Reach" "room" "I" = some x → s.fieldFound? ref "room" "I" = some x) (hdg : decode cc pc = .ok (.getfield index, 3)) (kk : kx_W p l e fr lo c0 s m args below meth c H locs σ Q (F0 m (pc + 3) ls (.int (xi σ 166 a) :: rest))) : kx_W p l e fr lo c0 s m args below meth c H locs σ Q (F0 m pc ls (.ref a :: rest)) :=
  kx_get (k := 6) (v := .int (xi σ 166 a)) F C (by rw [ha]; decide) (kx_e10 ha) kx_inX8 rfl (by decide) hw hsm rfl hdg kk
theorem xp_X8_room {ref : String} {a : Nat} {x : Int32} (F : CallFix p m c cc nL s args kt_ own) (C : kx_X G c0 s H locs σ) (ha : xt σ a = 10) (hw : Cond.fieldLink own index ref "room" "I" ∈ kt_) (hsm : ∀ x, s.fieldFound? "LogRiver$Reach" "room" "I" = some x → s.fieldFound? ref "room" "I" = some x) (hdg : decode cc pc = .ok (.putfield index, 3)) (kk : ∀ (H1 : Heap) (locs1 : List Loc), kx_X G c0 s H1 locs1 (xsi σ 166 a x) → kx_W p l e fr lo c0 s m args below meth c H1 locs1 (xsi σ 166 a x) Q (F0 m (pc + 3) ls rest)) : kx_W p l e fr lo c0 s m args below meth c H locs σ Q (F0 m pc ls (.int x :: .ref a :: rest)) :=
  kx_put (k := 6) (τ := xsi σ 166 a x) (ty := .int) (ty0 := tyX8) F C (by rw [ha]; decide) (kx_e10 ha) kx_inX8 tyX8_ok nmX8 rfl (by decide) hw hsm rfl (by decide +kernel) rfl rfl (Nat.le_of_ble_eq_true rfl) (fun b => by
    by_cases hb : b = a
    · rw [hb, va_up_self, kx_e10 (show xt (xsi σ 166 a x) a = 10 from ha)]
      have e9 : xi (xsi σ 166 a x) 166 a = x := va_up_self _ a x
      show _ = Sum.inr (9, _)
      rw [e9]
      rfl
    · rw [va_up_ne _ _ hb, kx_nsi hb]) (fun _ h => h) rfl rfl hdg kk
theorem xg_X8_store {ref : String} {a : Nat} (F : CallFix p m c cc nL s args kt_ own) (C : kx_X G c0 s H locs σ) (ha : xt σ a = 10) (hw : Cond.fieldLink own index ref "store" "I" ∈ kt_) (hsm : ∀ x, s.fieldFound? "LogRiver$Reach" "store" "I" = some x → s.fieldFound? ref "store" "I" = some x) (hdg : decode cc pc = .ok (.getfield index, 3)) (kk : kx_W p l e fr lo c0 s m args below meth c H locs σ Q (F0 m (pc + 3) ls (.int (xi σ 167 a) :: rest))) : kx_W p l e fr lo c0 s m args below meth c H locs σ Q (F0 m pc ls (.ref a :: rest)) :=
  kx_get (k := 7) (v := .int (xi σ 167 a)) F C (by rw [ha]; decide) (kx_e10 ha) kx_inX8 rfl (by decide) hw hsm rfl hdg kk
theorem xp_X8_store {ref : String} {a : Nat} {x : Int32} (F : CallFix p m c cc nL s args kt_ own) (C : kx_X G c0 s H locs σ) (ha : xt σ a = 10) (hw : Cond.fieldLink own index ref "store" "I" ∈ kt_) (hsm : ∀ x, s.fieldFound? "LogRiver$Reach" "store" "I" = some x → s.fieldFound? ref "store" "I" = some x) (hdg : decode cc pc = .ok (.putfield index, 3)) (kk : ∀ (H1 : Heap) (locs1 : List Loc), kx_X G c0 s H1 locs1 (xsi σ 167 a x) → kx_W p l e fr lo c0 s m args below meth c H1 locs1 (xsi σ 167 a x) Q (F0 m (pc + 3) ls rest)) : kx_W p l e fr lo c0 s m args below meth c H locs σ Q (F0 m pc ls (.int x :: .ref a :: rest)) :=
  kx_put (k := 7) (τ := xsi σ 167 a x) (ty := .int) (ty0 := tyX8) F C (by rw [ha]; decide) (kx_e10 ha) kx_inX8 tyX8_ok nmX8 rfl (by decide) hw hsm rfl (by decide +kernel) rfl rfl (Nat.le_of_ble_eq_true rfl) (fun b => by
    by_cases hb : b = a
    · rw [hb, va_up_self, kx_e10 (show xt (xsi σ 167 a x) a = 10 from ha)]
      have e9 : xi (xsi σ 167 a x) 167 a = x := va_up_self _ a x
      show _ = Sum.inr (9, _)
      rw [e9]
      rfl
    · rw [va_up_ne _ _ hb, kx_nsi hb]) (fun _ h => h) rfl rfl hdg kk
theorem xg_X8_gate {ref : String} {a : Nat} (F : CallFix p m c cc nL s args kt_ own) (C : kx_X G c0 s H locs σ) (ha : xt σ a = 10) (hw : Cond.fieldLink own index ref "gate" "I" ∈ kt_) (hsm : ∀ x, s.fieldFound? "LogRiver$Reach" "gate" "I" = some x → s.fieldFound? ref "gate" "I" = some x) (hdg : decode cc pc = .ok (.getfield index, 3)) (kk : kx_W p l e fr lo c0 s m args below meth c H locs σ Q (F0 m (pc + 3) ls (.int (xi σ 168 a) :: rest))) : kx_W p l e fr lo c0 s m args below meth c H locs σ Q (F0 m pc ls (.ref a :: rest)) :=
  kx_get (k := 8) (v := .int (xi σ 168 a)) F C (by rw [ha]; decide) (kx_e10 ha) kx_inX8 rfl (by decide) hw hsm rfl hdg kk
theorem xp_X8_gate {ref : String} {a : Nat} {x : Int32} (F : CallFix p m c cc nL s args kt_ own) (C : kx_X G c0 s H locs σ) (ha : xt σ a = 10) (hw : Cond.fieldLink own index ref "gate" "I" ∈ kt_) (hsm : ∀ x, s.fieldFound? "LogRiver$Reach" "gate" "I" = some x → s.fieldFound? ref "gate" "I" = some x) (hdg : decode cc pc = .ok (.putfield index, 3)) (kk : ∀ (H1 : Heap) (locs1 : List Loc), kx_X G c0 s H1 locs1 (xsi σ 168 a x) → kx_W p l e fr lo c0 s m args below meth c H1 locs1 (xsi σ 168 a x) Q (F0 m (pc + 3) ls rest)) : kx_W p l e fr lo c0 s m args below meth c H locs σ Q (F0 m pc ls (.int x :: .ref a :: rest)) :=
  kx_put (k := 8) (τ := xsi σ 168 a x) (ty := .int) (ty0 := tyX8) F C (by rw [ha]; decide) (kx_e10 ha) kx_inX8 tyX8_ok nmX8 rfl (by decide) hw hsm rfl (by decide +kernel) rfl rfl (Nat.le_of_ble_eq_true rfl) (fun b => by
    by_cases hb : b = a
    · rw [hb, va_up_self, kx_e10 (show xt (xsi σ 168 a x) a = 10 from ha)]
      have e9 : xi (xsi σ 168 a x) 168 a = x := va_up_self _ a x
      show _ = Sum.inr (9, _)
      rw [e9]
      rfl
    · rw [va_up_ne _ _ hb, kx_nsi hb]) (fun _ h => h) rfl rfl hdg kk
theorem xg_X8_flow {ref : String} {a : Nat} (F : CallFix p m c cc nL s args kt_ own) (C : kx_X G c0 s H locs σ) (ha : xt σ a = 10) (hw : Cond.fieldLink own index ref "flow" "I" ∈ kt_) (hsm : ∀ x, s.fieldFound? "LogRiver$Reach" "flow" "I" = some x → s.fieldFound? ref "flow" "I" = some x) (hdg : decode cc pc = .ok (.getfield index, 3)) (kk : kx_W p l e fr lo c0 s m args below meth c H locs σ Q (F0 m (pc + 3) ls (.int (xi σ 169 a) :: rest))) : kx_W p l e fr lo c0 s m args below meth c H locs σ Q (F0 m pc ls (.ref a :: rest)) :=
  kx_get (k := 9) (v := .int (xi σ 169 a)) F C (by rw [ha]; decide) (kx_e10 ha) kx_inX8 rfl (by decide) hw hsm rfl hdg kk
theorem xp_X8_flow {ref : String} {a : Nat} {x : Int32} (F : CallFix p m c cc nL s args kt_ own) (C : kx_X G c0 s H locs σ) (ha : xt σ a = 10) (hw : Cond.fieldLink own index ref "flow" "I" ∈ kt_) (hsm : ∀ x, s.fieldFound? "LogRiver$Reach" "flow" "I" = some x → s.fieldFound? ref "flow" "I" = some x) (hdg : decode cc pc = .ok (.putfield index, 3)) (kk : ∀ (H1 : Heap) (locs1 : List Loc), kx_X G c0 s H1 locs1 (xsi σ 169 a x) → kx_W p l e fr lo c0 s m args below meth c H1 locs1 (xsi σ 169 a x) Q (F0 m (pc + 3) ls rest)) : kx_W p l e fr lo c0 s m args below meth c H locs σ Q (F0 m pc ls (.int x :: .ref a :: rest)) :=
  kx_put (k := 9) (τ := xsi σ 169 a x) (ty := .int) (ty0 := tyX8) F C (by rw [ha]; decide) (kx_e10 ha) kx_inX8 tyX8_ok nmX8 rfl (by decide) hw hsm rfl (by decide +kernel) rfl rfl (Nat.le_of_ble_eq_true rfl) (fun b => by
    by_cases hb : b = a
    · rw [hb, va_up_self, kx_e10 (show xt (xsi σ 169 a x) a = 10 from ha)]
      have e9 : xi (xsi σ 169 a x) 169 a = x := va_up_self _ a x
      show _ = Sum.inr (9, _)
      rw [e9]
      rfl
    · rw [va_up_ne _ _ hb, kx_nsi hb]) (fun _ h => h) rfl rfl hdg kk
theorem xg_X8_out {ref : String} {a : Nat} (F : CallFix p m c cc nL s args kt_ own) (C : kx_X G c0 s H locs σ) (ha : xt σ a = 10) (hw : Cond.fieldLink own index ref "out" "I" ∈ kt_) (hsm : ∀ x, s.fieldFound? "LogRiver$Reach" "out" "I" = some x → s.fieldFound? ref "out" "I" = some x) (hdg : decode cc pc = .ok (.getfield index, 3)) (kk : kx_W p l e fr lo c0 s m args below meth c H locs σ Q (F0 m (pc + 3) ls (.int (xi σ 170 a) :: rest))) : kx_W p l e fr lo c0 s m args below meth c H locs σ Q (F0 m pc ls (.ref a :: rest)) :=
  kx_get (k := 10) (v := .int (xi σ 170 a)) F C (by rw [ha]; decide) (kx_e10 ha) kx_inX8 rfl (by decide) hw hsm rfl hdg kk
theorem xp_X8_out {ref : String} {a : Nat} {x : Int32} (F : CallFix p m c cc nL s args kt_ own) (C : kx_X G c0 s H locs σ) (ha : xt σ a = 10) (hw : Cond.fieldLink own index ref "out" "I" ∈ kt_) (hsm : ∀ x, s.fieldFound? "LogRiver$Reach" "out" "I" = some x → s.fieldFound? ref "out" "I" = some x) (hdg : decode cc pc = .ok (.putfield index, 3)) (kk : ∀ (H1 : Heap) (locs1 : List Loc), kx_X G c0 s H1 locs1 (xsi σ 170 a x) → kx_W p l e fr lo c0 s m args below meth c H1 locs1 (xsi σ 170 a x) Q (F0 m (pc + 3) ls rest)) : kx_W p l e fr lo c0 s m args below meth c H locs σ Q (F0 m pc ls (.int x :: .ref a :: rest)) :=
  kx_put (k := 10) (τ := xsi σ 170 a x) (ty := .int) (ty0 := tyX8) F C (by rw [ha]; decide) (kx_e10 ha) kx_inX8 tyX8_ok nmX8 rfl (by decide) hw hsm rfl (by decide +kernel) rfl rfl (Nat.le_of_ble_eq_true rfl) (fun b => by
    by_cases hb : b = a
    · rw [hb, va_up_self, kx_e10 (show xt (xsi σ 170 a x) a = 10 from ha)]
      have e9 : xi (xsi σ 170 a x) 170 a = x := va_up_self _ a x
      show _ = Sum.inr (9, _)
      rw [e9]
      rfl
    · rw [va_up_ne _ _ hb, kx_nsi hb]) (fun _ h => h) rfl rfl hdg kk
theorem xg_X8_watched {ref : String} {a : Nat} (F : CallFix p m c cc nL s args kt_ own) (C : kx_X G c0 s H locs σ) (ha : xt σ a = 10) (hw : Cond.fieldLink own index ref "watched" "Z" ∈ kt_) (hsm : ∀ x, s.fieldFound? "LogRiver$Reach" "watched" "Z" = some x → s.fieldFound? ref "watched" "Z" = some x) (hdg : decode cc pc = .ok (.getfield index, 3)) (kk : kx_W p l e fr lo c0 s m args below meth c H locs σ Q (F0 m (pc + 3) ls (.int (xi σ 171 a) :: rest))) : kx_W p l e fr lo c0 s m args below meth c H locs σ Q (F0 m pc ls (.ref a :: rest)) :=
  kx_get (k := 11) (v := .int (xi σ 171 a)) F C (by rw [ha]; decide) (kx_e10 ha) kx_inX8 rfl (by decide) hw hsm rfl hdg kk
theorem xp_X8_watched {ref : String} {a : Nat} {x : Int32} (F : CallFix p m c cc nL s args kt_ own) (C : kx_X G c0 s H locs σ) (ha : xt σ a = 10) (hz : narrow .boolean (.int x) = .int x ∧ fits .boolean (.int x) = true) (hw : Cond.fieldLink own index ref "watched" "Z" ∈ kt_) (hsm : ∀ x, s.fieldFound? "LogRiver$Reach" "watched" "Z" = some x → s.fieldFound? ref "watched" "Z" = some x) (hdg : decode cc pc = .ok (.putfield index, 3)) (kk : ∀ (H1 : Heap) (locs1 : List Loc), kx_X G c0 s H1 locs1 (xsi σ 171 a x) → kx_W p l e fr lo c0 s m args below meth c H1 locs1 (xsi σ 171 a x) Q (F0 m (pc + 3) ls rest)) : kx_W p l e fr lo c0 s m args below meth c H locs σ Q (F0 m pc ls (.int x :: .ref a :: rest)) :=
  kx_put (k := 11) (τ := xsi σ 171 a x) (ty := .boolean) (ty0 := tyX8) F C (by rw [ha]; decide) (kx_e10 ha) kx_inX8 tyX8_ok nmX8 rfl (by decide) hw hsm rfl (by decide +kernel) hz.1 hz.2 (Nat.le_of_ble_eq_true rfl) (fun b => by
    by_cases hb : b = a
    · rw [hb, va_up_self, kx_e10 (show xt (xsi σ 171 a x) a = 10 from ha)]
      have e9 : xi (xsi σ 171 a x) 171 a = x := va_up_self _ a x
      show _ = Sum.inr (9, _)
      rw [e9]
      rfl
    · rw [va_up_ne _ _ hb, kx_nsi hb]) (fun _ h => h) rfl rfl hdg kk
theorem xg_X8_boom {ref : String} {a : Nat} (F : CallFix p m c cc nL s args kt_ own) (C : kx_X G c0 s H locs σ) (ha : xt σ a = 10) (hw : Cond.fieldLink own index ref "boom" "LLogRiver$Boom;" ∈ kt_) (hsm : ∀ x, s.fieldFound? "LogRiver$Reach" "boom" "LLogRiver$Boom;" = some x → s.fieldFound? ref "boom" "LLogRiver$Boom;" = some x) (hdg : decode cc pc = .ok (.getfield index, 3)) (kk : kx_W p l e fr lo c0 s m args below meth c H locs σ Q (F0 m (pc + 3) ls (va_rf (xr σ 172 a) :: rest))) : kx_W p l e fr lo c0 s m args below meth c H locs σ Q (F0 m pc ls (.ref a :: rest)) :=
  kx_get (k := 12) (v := va_rf (xr σ 172 a)) F C (by rw [ha]; decide) (kx_e10 ha) kx_inX8 rfl (by decide) hw hsm rfl hdg kk
theorem xp_X8_boom {ref : String} {a : Nat} {x : Option Nat} (F : CallFix p m c cc nL s args kt_ own) (C : kx_X G c0 s H locs σ) (ha : xt σ a = 10) (hw : Cond.fieldLink own index ref "boom" "LLogRiver$Boom;" ∈ kt_) (hsm : ∀ x, s.fieldFound? "LogRiver$Reach" "boom" "LLogRiver$Boom;" = some x → s.fieldFound? ref "boom" "LLogRiver$Boom;" = some x) (hdg : decode cc pc = .ok (.putfield index, 3)) (kk : ∀ (H1 : Heap) (locs1 : List Loc), kx_X G c0 s H1 locs1 (xsr σ 172 a x) → kx_W p l e fr lo c0 s m args below meth c H1 locs1 (xsr σ 172 a x) Q (F0 m (pc + 3) ls rest)) : kx_W p l e fr lo c0 s m args below meth c H locs σ Q (F0 m pc ls (va_rf x :: .ref a :: rest)) :=
  kx_put (k := 12) (τ := xsr σ 172 a x) (ty := .object "LogRiver$Boom") (ty0 := tyX8) F C (by rw [ha]; decide) (kx_e10 ha) kx_inX8 tyX8_ok nmX8 rfl (by decide) hw hsm rfl (by decide +kernel) (by cases x <;> rfl) (by cases x <;> rfl) (Nat.le_of_ble_eq_true rfl) (fun b => by
    by_cases hb : b = a
    · rw [hb, va_up_self, kx_e10 (show xt (xsr σ 172 a x) a = 10 from ha)]
      have e9 : xr (xsr σ 172 a x) 172 a = x := va_up_self _ a x
      show _ = Sum.inr (9, _)
      rw [e9]
      rfl
    · rw [va_up_ne _ _ hb, kx_nsr hb]) (fun _ h => h) rfl rfl hdg kk
theorem xw_X8 (F : CallFix p m c cc nL s args kt_ own) (C : kx_X G c0 s H locs σ) (hN : xc σ < kx_N) (hcl : Cond.classLink own index RX8 ∈ kt_) (hdg : decode cc pc = .ok (.new index, 3)) (kk : ∀ (q : Nat) (H1 : Heap), xt σ q = 0 → q ≠ kx_z G → kx_X G c0 s H1 locs (xnew σ q 10) → kx_W p l e fr lo c0 s m args below meth c H1 locs (xnew σ q 10) Q (F0 m (pc + 3) ls (.ref q :: rest))) : kx_W p l e fr lo c0 s m args below meth c H locs σ Q (F0 m pc ls rest) :=
  kx_new (ci := 9) (fs := [.int 0, .null, .int 0, .null, .int 0, .int 0, .int 0, .int 0, .int 0, .int 0, .int 0, .int 0, .null]) (tag := 10) F C hN kx_inX8 tyX8_ok hcl ux_89 ux_90 rfl kx_dfX8 (by decide) (fun q => by
    rw [kx_e10 (show xt (xnew σ q 10) q = 10 from va_up_self _ _ _)]
    simp only [xi, xr, xl, xnew, va_up_self, va_rf]) hdg kk
theorem xg_X9_bytes {ref : String} {a : Nat} (F : CallFix p m c cc nL s args kt_ own) (C : kx_X G c0 s H locs σ) (ha : xt σ a = 11) (hw : Cond.fieldLink own index ref "bytes" "[I" ∈ kt_) (hsm : ∀ x, s.fieldFound? "LogRiver$Tape" "bytes" "[I" = some x → s.fieldFound? ref "bytes" "[I" = some x) (hdg : decode cc pc = .ok (.getfield index, 3)) (kk : kx_W p l e fr lo c0 s m args below meth c H locs σ Q (F0 m (pc + 3) ls (va_rf (xr σ 176 a) :: rest))) : kx_W p l e fr lo c0 s m args below meth c H locs σ Q (F0 m pc ls (.ref a :: rest)) :=
  kx_get (k := 0) (v := va_rf (xr σ 176 a)) F C (by rw [ha]; decide) (kx_e11 ha) kx_inX9 rfl (by decide) hw hsm rfl hdg kk
theorem xp_X9_bytes {ref : String} {a : Nat} {x : Option Nat} (F : CallFix p m c cc nL s args kt_ own) (C : kx_X G c0 s H locs σ) (ha : xt σ a = 11) (hw : Cond.fieldLink own index ref "bytes" "[I" ∈ kt_) (hsm : ∀ x, s.fieldFound? "LogRiver$Tape" "bytes" "[I" = some x → s.fieldFound? ref "bytes" "[I" = some x) (hini : meth.name = "<init>") (hdecl : "LogRiver$Tape" = own) (hdg : decode cc pc = .ok (.putfield index, 3)) (kk : ∀ (H1 : Heap) (locs1 : List Loc), kx_X G c0 s H1 locs1 (xsr σ 176 a x) → kx_W p l e fr lo c0 s m args below meth c H1 locs1 (xsr σ 176 a x) Q (F0 m (pc + 3) ls rest)) : kx_W p l e fr lo c0 s m args below meth c H locs σ Q (F0 m pc ls (va_rf x :: .ref a :: rest)) :=
  kx_putF (k := 0) (τ := xsr σ 176 a x) (ty := .array .int) (ty0 := tyX9) F C (by rw [ha]; decide) (kx_e11 ha) kx_inX9 tyX9_ok nmX9 rfl (by decide) hw hsm rfl hini hdecl (by decide +kernel) (by cases x <;> rfl) (by cases x <;> rfl) (Nat.le_of_ble_eq_true rfl) (fun b => by
    by_cases hb : b = a
    · rw [hb, va_up_self, kx_e11 (show xt (xsr σ 176 a x) a = 11 from ha)]
      have e9 : xr (xsr σ 176 a x) 176 a = x := va_up_self _ a x
      show _ = Sum.inr (10, _)
      rw [e9]
      rfl
    · rw [va_up_ne _ _ hb, kx_nsr hb]) (fun _ h => h) rfl rfl hdg kk
theorem xg_X9_length {ref : String} {a : Nat} (F : CallFix p m c cc nL s args kt_ own) (C : kx_X G c0 s H locs σ) (ha : xt σ a = 11) (hw : Cond.fieldLink own index ref "length" "I" ∈ kt_) (hsm : ∀ x, s.fieldFound? "LogRiver$Tape" "length" "I" = some x → s.fieldFound? ref "length" "I" = some x) (hdg : decode cc pc = .ok (.getfield index, 3)) (kk : kx_W p l e fr lo c0 s m args below meth c H locs σ Q (F0 m (pc + 3) ls (.int (xi σ 177 a) :: rest))) : kx_W p l e fr lo c0 s m args below meth c H locs σ Q (F0 m pc ls (.ref a :: rest)) :=
  kx_get (k := 1) (v := .int (xi σ 177 a)) F C (by rw [ha]; decide) (kx_e11 ha) kx_inX9 rfl (by decide) hw hsm rfl hdg kk
theorem xp_X9_length {ref : String} {a : Nat} {x : Int32} (F : CallFix p m c cc nL s args kt_ own) (C : kx_X G c0 s H locs σ) (ha : xt σ a = 11) (hw : Cond.fieldLink own index ref "length" "I" ∈ kt_) (hsm : ∀ x, s.fieldFound? "LogRiver$Tape" "length" "I" = some x → s.fieldFound? ref "length" "I" = some x) (hdg : decode cc pc = .ok (.putfield index, 3)) (kk : ∀ (H1 : Heap) (locs1 : List Loc), kx_X G c0 s H1 locs1 (xsi σ 177 a x) → kx_W p l e fr lo c0 s m args below meth c H1 locs1 (xsi σ 177 a x) Q (F0 m (pc + 3) ls rest)) : kx_W p l e fr lo c0 s m args below meth c H locs σ Q (F0 m pc ls (.int x :: .ref a :: rest)) :=
  kx_put (k := 1) (τ := xsi σ 177 a x) (ty := .int) (ty0 := tyX9) F C (by rw [ha]; decide) (kx_e11 ha) kx_inX9 tyX9_ok nmX9 rfl (by decide) hw hsm rfl (by decide +kernel) rfl rfl (Nat.le_of_ble_eq_true rfl) (fun b => by
    by_cases hb : b = a
    · rw [hb, va_up_self, kx_e11 (show xt (xsi σ 177 a x) a = 11 from ha)]
      have e9 : xi (xsi σ 177 a x) 177 a = x := va_up_self _ a x
      show _ = Sum.inr (10, _)
      rw [e9]
      rfl
    · rw [va_up_ne _ _ hb, kx_nsi hb]) (fun _ h => h) rfl rfl hdg kk
theorem xw_X9 (F : CallFix p m c cc nL s args kt_ own) (C : kx_X G c0 s H locs σ) (hN : xc σ < kx_N) (hcl : Cond.classLink own index RX9 ∈ kt_) (hdg : decode cc pc = .ok (.new index, 3)) (kk : ∀ (q : Nat) (H1 : Heap), xt σ q = 0 → q ≠ kx_z G → kx_X G c0 s H1 locs (xnew σ q 11) → kx_W p l e fr lo c0 s m args below meth c H1 locs (xnew σ q 11) Q (F0 m (pc + 3) ls (.ref q :: rest))) : kx_W p l e fr lo c0 s m args below meth c H locs σ Q (F0 m pc ls rest) :=
  kx_new (ci := 10) (fs := [.null, .int 0]) (tag := 11) F C hN kx_inX9 tyX9_ok hcl ux_93 ux_94 rfl kx_dfX9 (by decide) (fun q => by
    rw [kx_e11 (show xt (xnew σ q 11) q = 11 from va_up_self _ _ _)]
    simp only [xi, xr, xl, xnew, va_up_self, va_rf]) hdg kk
theorem xg_X10_tape {ref : String} {a : Nat} (F : CallFix p m c cc nL s args kt_ own) (C : kx_X G c0 s H locs σ) (ha : xt σ a = 12) (hw : Cond.fieldLink own index ref "tape" "LLogRiver$Tape;" ∈ kt_) (hsm : ∀ x, s.fieldFound? "LogRiver$Tokens" "tape" "LLogRiver$Tape;" = some x → s.fieldFound? ref "tape" "LLogRiver$Tape;" = some x) (hdg : decode cc pc = .ok (.getfield index, 3)) (kk : kx_W p l e fr lo c0 s m args below meth c H locs σ Q (F0 m (pc + 3) ls (va_rf (xr σ 192 a) :: rest))) : kx_W p l e fr lo c0 s m args below meth c H locs σ Q (F0 m pc ls (.ref a :: rest)) :=
  kx_get (k := 0) (v := va_rf (xr σ 192 a)) F C (by rw [ha]; decide) (kx_e12 ha) kx_inX10 rfl (by decide) hw hsm rfl hdg kk
theorem xp_X10_tape {ref : String} {a : Nat} {x : Option Nat} (F : CallFix p m c cc nL s args kt_ own) (C : kx_X G c0 s H locs σ) (ha : xt σ a = 12) (hw : Cond.fieldLink own index ref "tape" "LLogRiver$Tape;" ∈ kt_) (hsm : ∀ x, s.fieldFound? "LogRiver$Tokens" "tape" "LLogRiver$Tape;" = some x → s.fieldFound? ref "tape" "LLogRiver$Tape;" = some x) (hini : meth.name = "<init>") (hdecl : "LogRiver$Tokens" = own) (hdg : decode cc pc = .ok (.putfield index, 3)) (kk : ∀ (H1 : Heap) (locs1 : List Loc), kx_X G c0 s H1 locs1 (xsr σ 192 a x) → kx_W p l e fr lo c0 s m args below meth c H1 locs1 (xsr σ 192 a x) Q (F0 m (pc + 3) ls rest)) : kx_W p l e fr lo c0 s m args below meth c H locs σ Q (F0 m pc ls (va_rf x :: .ref a :: rest)) :=
  kx_putF (k := 0) (τ := xsr σ 192 a x) (ty := .object "LogRiver$Tape") (ty0 := tyX10) F C (by rw [ha]; decide) (kx_e12 ha) kx_inX10 tyX10_ok nmX10 rfl (by decide) hw hsm rfl hini hdecl (by decide +kernel) (by cases x <;> rfl) (by cases x <;> rfl) (Nat.le_of_ble_eq_true rfl) (fun b => by
    by_cases hb : b = a
    · rw [hb, va_up_self, kx_e12 (show xt (xsr σ 192 a x) a = 12 from ha)]
      have e9 : xr (xsr σ 192 a x) 192 a = x := va_up_self _ a x
      show _ = Sum.inr (11, _)
      rw [e9]
      rfl
    · rw [va_up_ne _ _ hb, kx_nsr hb]) (fun _ h => h) rfl rfl hdg kk
theorem xg_X10_length {ref : String} {a : Nat} (F : CallFix p m c cc nL s args kt_ own) (C : kx_X G c0 s H locs σ) (ha : xt σ a = 12) (hw : Cond.fieldLink own index ref "length" "I" ∈ kt_) (hsm : ∀ x, s.fieldFound? "LogRiver$Tokens" "length" "I" = some x → s.fieldFound? ref "length" "I" = some x) (hdg : decode cc pc = .ok (.getfield index, 3)) (kk : kx_W p l e fr lo c0 s m args below meth c H locs σ Q (F0 m (pc + 3) ls (.int (xi σ 193 a) :: rest))) : kx_W p l e fr lo c0 s m args below meth c H locs σ Q (F0 m pc ls (.ref a :: rest)) :=
  kx_get (k := 1) (v := .int (xi σ 193 a)) F C (by rw [ha]; decide) (kx_e12 ha) kx_inX10 rfl (by decide) hw hsm rfl hdg kk
theorem xp_X10_length {ref : String} {a : Nat} {x : Int32} (F : CallFix p m c cc nL s args kt_ own) (C : kx_X G c0 s H locs σ) (ha : xt σ a = 12) (hw : Cond.fieldLink own index ref "length" "I" ∈ kt_) (hsm : ∀ x, s.fieldFound? "LogRiver$Tokens" "length" "I" = some x → s.fieldFound? ref "length" "I" = some x) (hdg : decode cc pc = .ok (.putfield index, 3)) (kk : ∀ (H1 : Heap) (locs1 : List Loc), kx_X G c0 s H1 locs1 (xsi σ 193 a x) → kx_W p l e fr lo c0 s m args below meth c H1 locs1 (xsi σ 193 a x) Q (F0 m (pc + 3) ls rest)) : kx_W p l e fr lo c0 s m args below meth c H locs σ Q (F0 m pc ls (.int x :: .ref a :: rest)) :=
  kx_put (k := 1) (τ := xsi σ 193 a x) (ty := .int) (ty0 := tyX10) F C (by rw [ha]; decide) (kx_e12 ha) kx_inX10 tyX10_ok nmX10 rfl (by decide) hw hsm rfl (by decide +kernel) rfl rfl (Nat.le_of_ble_eq_true rfl) (fun b => by
    by_cases hb : b = a
    · rw [hb, va_up_self, kx_e12 (show xt (xsi σ 193 a x) a = 12 from ha)]
      have e9 : xi (xsi σ 193 a x) 193 a = x := va_up_self _ a x
      show _ = Sum.inr (11, _)
      rw [e9]
      rfl
    · rw [va_up_ne _ _ hb, kx_nsi hb]) (fun _ h => h) rfl rfl hdg kk
theorem xg_X10_end {ref : String} {a : Nat} (F : CallFix p m c cc nL s args kt_ own) (C : kx_X G c0 s H locs σ) (ha : xt σ a = 12) (hw : Cond.fieldLink own index ref "end" "I" ∈ kt_) (hsm : ∀ x, s.fieldFound? "LogRiver$Tokens" "end" "I" = some x → s.fieldFound? ref "end" "I" = some x) (hdg : decode cc pc = .ok (.getfield index, 3)) (kk : kx_W p l e fr lo c0 s m args below meth c H locs σ Q (F0 m (pc + 3) ls (.int (xi σ 194 a) :: rest))) : kx_W p l e fr lo c0 s m args below meth c H locs σ Q (F0 m pc ls (.ref a :: rest)) :=
  kx_get (k := 2) (v := .int (xi σ 194 a)) F C (by rw [ha]; decide) (kx_e12 ha) kx_inX10 rfl (by decide) hw hsm rfl hdg kk
theorem xp_X10_end {ref : String} {a : Nat} {x : Int32} (F : CallFix p m c cc nL s args kt_ own) (C : kx_X G c0 s H locs σ) (ha : xt σ a = 12) (hw : Cond.fieldLink own index ref "end" "I" ∈ kt_) (hsm : ∀ x, s.fieldFound? "LogRiver$Tokens" "end" "I" = some x → s.fieldFound? ref "end" "I" = some x) (hdg : decode cc pc = .ok (.putfield index, 3)) (kk : ∀ (H1 : Heap) (locs1 : List Loc), kx_X G c0 s H1 locs1 (xsi σ 194 a x) → kx_W p l e fr lo c0 s m args below meth c H1 locs1 (xsi σ 194 a x) Q (F0 m (pc + 3) ls rest)) : kx_W p l e fr lo c0 s m args below meth c H locs σ Q (F0 m pc ls (.int x :: .ref a :: rest)) :=
  kx_put (k := 2) (τ := xsi σ 194 a x) (ty := .int) (ty0 := tyX10) F C (by rw [ha]; decide) (kx_e12 ha) kx_inX10 tyX10_ok nmX10 rfl (by decide) hw hsm rfl (by decide +kernel) rfl rfl (Nat.le_of_ble_eq_true rfl) (fun b => by
    by_cases hb : b = a
    · rw [hb, va_up_self, kx_e12 (show xt (xsi σ 194 a x) a = 12 from ha)]
      have e9 : xi (xsi σ 194 a x) 194 a = x := va_up_self _ a x
      show _ = Sum.inr (11, _)
      rw [e9]
      rfl
    · rw [va_up_ne _ _ hb, kx_nsi hb]) (fun _ h => h) rfl rfl hdg kk
theorem xg_X10_start {ref : String} {a : Nat} (F : CallFix p m c cc nL s args kt_ own) (C : kx_X G c0 s H locs σ) (ha : xt σ a = 12) (hw : Cond.fieldLink own index ref "start" "I" ∈ kt_) (hsm : ∀ x, s.fieldFound? "LogRiver$Tokens" "start" "I" = some x → s.fieldFound? ref "start" "I" = some x) (hdg : decode cc pc = .ok (.getfield index, 3)) (kk : kx_W p l e fr lo c0 s m args below meth c H locs σ Q (F0 m (pc + 3) ls (.int (xi σ 195 a) :: rest))) : kx_W p l e fr lo c0 s m args below meth c H locs σ Q (F0 m pc ls (.ref a :: rest)) :=
  kx_get (k := 3) (v := .int (xi σ 195 a)) F C (by rw [ha]; decide) (kx_e12 ha) kx_inX10 rfl (by decide) hw hsm rfl hdg kk
theorem xp_X10_start {ref : String} {a : Nat} {x : Int32} (F : CallFix p m c cc nL s args kt_ own) (C : kx_X G c0 s H locs σ) (ha : xt σ a = 12) (hw : Cond.fieldLink own index ref "start" "I" ∈ kt_) (hsm : ∀ x, s.fieldFound? "LogRiver$Tokens" "start" "I" = some x → s.fieldFound? ref "start" "I" = some x) (hdg : decode cc pc = .ok (.putfield index, 3)) (kk : ∀ (H1 : Heap) (locs1 : List Loc), kx_X G c0 s H1 locs1 (xsi σ 195 a x) → kx_W p l e fr lo c0 s m args below meth c H1 locs1 (xsi σ 195 a x) Q (F0 m (pc + 3) ls rest)) : kx_W p l e fr lo c0 s m args below meth c H locs σ Q (F0 m pc ls (.int x :: .ref a :: rest)) :=
  kx_put (k := 3) (τ := xsi σ 195 a x) (ty := .int) (ty0 := tyX10) F C (by rw [ha]; decide) (kx_e12 ha) kx_inX10 tyX10_ok nmX10 rfl (by decide) hw hsm rfl (by decide +kernel) rfl rfl (Nat.le_of_ble_eq_true rfl) (fun b => by
    by_cases hb : b = a
    · rw [hb, va_up_self, kx_e12 (show xt (xsi σ 195 a x) a = 12 from ha)]
      have e9 : xi (xsi σ 195 a x) 195 a = x := va_up_self _ a x
      show _ = Sum.inr (11, _)
      rw [e9]
      rfl
    · rw [va_up_ne _ _ hb, kx_nsi hb]) (fun _ h => h) rfl rfl hdg kk
theorem xg_X10_kind {ref : String} {a : Nat} (F : CallFix p m c cc nL s args kt_ own) (C : kx_X G c0 s H locs σ) (ha : xt σ a = 12) (hw : Cond.fieldLink own index ref "kind" "I" ∈ kt_) (hsm : ∀ x, s.fieldFound? "LogRiver$Tokens" "kind" "I" = some x → s.fieldFound? ref "kind" "I" = some x) (hdg : decode cc pc = .ok (.getfield index, 3)) (kk : kx_W p l e fr lo c0 s m args below meth c H locs σ Q (F0 m (pc + 3) ls (.int (xi σ 196 a) :: rest))) : kx_W p l e fr lo c0 s m args below meth c H locs σ Q (F0 m pc ls (.ref a :: rest)) :=
  kx_get (k := 4) (v := .int (xi σ 196 a)) F C (by rw [ha]; decide) (kx_e12 ha) kx_inX10 rfl (by decide) hw hsm rfl hdg kk
theorem xp_X10_kind {ref : String} {a : Nat} {x : Int32} (F : CallFix p m c cc nL s args kt_ own) (C : kx_X G c0 s H locs σ) (ha : xt σ a = 12) (hw : Cond.fieldLink own index ref "kind" "I" ∈ kt_) (hsm : ∀ x, s.fieldFound? "LogRiver$Tokens" "kind" "I" = some x → s.fieldFound? ref "kind" "I" = some x) (hdg : decode cc pc = .ok (.putfield index, 3)) (kk : ∀ (H1 : Heap) (locs1 : List Loc), kx_X G c0 s H1 locs1 (xsi σ 196 a x) → kx_W p l e fr lo c0 s m args below meth c H1 locs1 (xsi σ 196 a x) Q (F0 m (pc + 3) ls rest)) : kx_W p l e fr lo c0 s m args below meth c H locs σ Q (F0 m pc ls (.int x :: .ref a :: rest)) :=
  kx_put (k := 4) (τ := xsi σ 196 a x) (ty := .int) (ty0 := tyX10) F C (by rw [ha]; decide) (kx_e12 ha) kx_inX10 tyX10_ok nmX10 rfl (by decide) hw hsm rfl (by decide +kernel) rfl rfl (Nat.le_of_ble_eq_true rfl) (fun b => by
    by_cases hb : b = a
    · rw [hb, va_up_self, kx_e12 (show xt (xsi σ 196 a x) a = 12 from ha)]
      have e9 : xi (xsi σ 196 a x) 196 a = x := va_up_self _ a x
      show _ = Sum.inr (11, _)
      rw [e9]
      rfl
    · rw [va_up_ne _ _ hb, kx_nsi hb]) (fun _ h => h) rfl rfl hdg kk
theorem xw_X10 (F : CallFix p m c cc nL s args kt_ own) (C : kx_X G c0 s H locs σ) (hN : xc σ < kx_N) (hcl : Cond.classLink own index RX10 ∈ kt_) (hdg : decode cc pc = .ok (.new index, 3)) (kk : ∀ (q : Nat) (H1 : Heap), xt σ q = 0 → q ≠ kx_z G → kx_X G c0 s H1 locs (xnew σ q 12) → kx_W p l e fr lo c0 s m args below meth c H1 locs (xnew σ q 12) Q (F0 m (pc + 3) ls (.ref q :: rest))) : kx_W p l e fr lo c0 s m args below meth c H locs σ Q (F0 m pc ls rest) :=
  kx_new (ci := 11) (fs := [.null, .int 0, .int 0, .int 0, .int 0]) (tag := 12) F C hN kx_inX10 tyX10_ok hcl ux_100 ux_101 rfl kx_dfX10 (by decide) (fun q => by
    rw [kx_e12 (show xt (xnew σ q 12) q = 12 from va_up_self _ _ _)]
    simp only [xi, xr, xl, xnew, va_up_self, va_rf]) hdg kk
theorem xg_X11_reaches {ref : String} {a : Nat} (F : CallFix p m c cc nL s args kt_ own) (C : kx_X G c0 s H locs σ) (ha : xt σ a = 13) (hw : Cond.fieldLink own index ref "reaches" "Ljava/util/List;" ∈ kt_) (hsm : ∀ x, s.fieldFound? "LogRiver" "reaches" "Ljava/util/List;" = some x → s.fieldFound? ref "reaches" "Ljava/util/List;" = some x) (hdg : decode cc pc = .ok (.getfield index, 3)) (kk : kx_W p l e fr lo c0 s m args below meth c H locs σ Q (F0 m (pc + 3) ls (va_rf (xr σ 208 a) :: rest))) : kx_W p l e fr lo c0 s m args below meth c H locs σ Q (F0 m pc ls (.ref a :: rest)) :=
  kx_get (k := 0) (v := va_rf (xr σ 208 a)) F C (by rw [ha]; decide) (kx_e13 ha) kx_inX11 rfl (by decide) hw hsm rfl hdg kk
theorem xp_X11_reaches {ref : String} {a : Nat} {x : Option Nat} (F : CallFix p m c cc nL s args kt_ own) (C : kx_X G c0 s H locs σ) (ha : xt σ a = 13) (hw : Cond.fieldLink own index ref "reaches" "Ljava/util/List;" ∈ kt_) (hsm : ∀ x, s.fieldFound? "LogRiver" "reaches" "Ljava/util/List;" = some x → s.fieldFound? ref "reaches" "Ljava/util/List;" = some x) (hini : meth.name = "<init>") (hdecl : "LogRiver" = own) (hdg : decode cc pc = .ok (.putfield index, 3)) (kk : ∀ (H1 : Heap) (locs1 : List Loc), kx_X G c0 s H1 locs1 (xsr σ 208 a x) → kx_W p l e fr lo c0 s m args below meth c H1 locs1 (xsr σ 208 a x) Q (F0 m (pc + 3) ls rest)) : kx_W p l e fr lo c0 s m args below meth c H locs σ Q (F0 m pc ls (va_rf x :: .ref a :: rest)) :=
  kx_putF (k := 0) (τ := xsr σ 208 a x) (ty := .object "java/util/List") (ty0 := tyX11) F C (by rw [ha]; decide) (kx_e13 ha) kx_inX11 tyX11_ok nmX11 rfl (by decide) hw hsm rfl hini hdecl (by decide +kernel) (by cases x <;> rfl) (by cases x <;> rfl) (Nat.le_of_ble_eq_true rfl) (fun b => by
    by_cases hb : b = a
    · rw [hb, va_up_self, kx_e13 (show xt (xsr σ 208 a x) a = 13 from ha)]
      have e9 : xr (xsr σ 208 a x) 208 a = x := va_up_self _ a x
      show _ = Sum.inr (12, _)
      rw [e9]
      rfl
    · rw [va_up_ne _ _ hb, kx_nsr hb]) (fun _ h => h) rfl rfl hdg kk
theorem xg_X11_logs {ref : String} {a : Nat} (F : CallFix p m c cc nL s args kt_ own) (C : kx_X G c0 s H locs σ) (ha : xt σ a = 13) (hw : Cond.fieldLink own index ref "logs" "Ljava/util/List;" ∈ kt_) (hsm : ∀ x, s.fieldFound? "LogRiver" "logs" "Ljava/util/List;" = some x → s.fieldFound? ref "logs" "Ljava/util/List;" = some x) (hdg : decode cc pc = .ok (.getfield index, 3)) (kk : kx_W p l e fr lo c0 s m args below meth c H locs σ Q (F0 m (pc + 3) ls (va_rf (xr σ 209 a) :: rest))) : kx_W p l e fr lo c0 s m args below meth c H locs σ Q (F0 m pc ls (.ref a :: rest)) :=
  kx_get (k := 1) (v := va_rf (xr σ 209 a)) F C (by rw [ha]; decide) (kx_e13 ha) kx_inX11 rfl (by decide) hw hsm rfl hdg kk
theorem xp_X11_logs {ref : String} {a : Nat} {x : Option Nat} (F : CallFix p m c cc nL s args kt_ own) (C : kx_X G c0 s H locs σ) (ha : xt σ a = 13) (hw : Cond.fieldLink own index ref "logs" "Ljava/util/List;" ∈ kt_) (hsm : ∀ x, s.fieldFound? "LogRiver" "logs" "Ljava/util/List;" = some x → s.fieldFound? ref "logs" "Ljava/util/List;" = some x) (hini : meth.name = "<init>") (hdecl : "LogRiver" = own) (hdg : decode cc pc = .ok (.putfield index, 3)) (kk : ∀ (H1 : Heap) (locs1 : List Loc), kx_X G c0 s H1 locs1 (xsr σ 209 a x) → kx_W p l e fr lo c0 s m args below meth c H1 locs1 (xsr σ 209 a x) Q (F0 m (pc + 3) ls rest)) : kx_W p l e fr lo c0 s m args below meth c H locs σ Q (F0 m pc ls (va_rf x :: .ref a :: rest)) :=
  kx_putF (k := 1) (τ := xsr σ 209 a x) (ty := .object "java/util/List") (ty0 := tyX11) F C (by rw [ha]; decide) (kx_e13 ha) kx_inX11 tyX11_ok nmX11 rfl (by decide) hw hsm rfl hini hdecl (by decide +kernel) (by cases x <;> rfl) (by cases x <;> rfl) (Nat.le_of_ble_eq_true rfl) (fun b => by
    by_cases hb : b = a
    · rw [hb, va_up_self, kx_e13 (show xt (xsr σ 209 a x) a = 13 from ha)]
      have e9 : xr (xsr σ 209 a x) 209 a = x := va_up_self _ a x
      show _ = Sum.inr (12, _)
      rw [e9]
      rfl
    · rw [va_up_ne _ _ hb, kx_nsr hb]) (fun _ h => h) rfl rfl hdg kk
theorem xg_X11_laws {ref : String} {a : Nat} (F : CallFix p m c cc nL s args kt_ own) (C : kx_X G c0 s H locs σ) (ha : xt σ a = 13) (hw : Cond.fieldLink own index ref "laws" "Ljava/util/List;" ∈ kt_) (hsm : ∀ x, s.fieldFound? "LogRiver" "laws" "Ljava/util/List;" = some x → s.fieldFound? ref "laws" "Ljava/util/List;" = some x) (hdg : decode cc pc = .ok (.getfield index, 3)) (kk : kx_W p l e fr lo c0 s m args below meth c H locs σ Q (F0 m (pc + 3) ls (va_rf (xr σ 210 a) :: rest))) : kx_W p l e fr lo c0 s m args below meth c H locs σ Q (F0 m pc ls (.ref a :: rest)) :=
  kx_get (k := 2) (v := va_rf (xr σ 210 a)) F C (by rw [ha]; decide) (kx_e13 ha) kx_inX11 rfl (by decide) hw hsm rfl hdg kk
theorem xp_X11_laws {ref : String} {a : Nat} {x : Option Nat} (F : CallFix p m c cc nL s args kt_ own) (C : kx_X G c0 s H locs σ) (ha : xt σ a = 13) (hw : Cond.fieldLink own index ref "laws" "Ljava/util/List;" ∈ kt_) (hsm : ∀ x, s.fieldFound? "LogRiver" "laws" "Ljava/util/List;" = some x → s.fieldFound? ref "laws" "Ljava/util/List;" = some x) (hini : meth.name = "<init>") (hdecl : "LogRiver" = own) (hdg : decode cc pc = .ok (.putfield index, 3)) (kk : ∀ (H1 : Heap) (locs1 : List Loc), kx_X G c0 s H1 locs1 (xsr σ 210 a x) → kx_W p l e fr lo c0 s m args below meth c H1 locs1 (xsr σ 210 a x) Q (F0 m (pc + 3) ls rest)) : kx_W p l e fr lo c0 s m args below meth c H locs σ Q (F0 m pc ls (va_rf x :: .ref a :: rest)) :=
  kx_putF (k := 2) (τ := xsr σ 210 a x) (ty := .object "java/util/List") (ty0 := tyX11) F C (by rw [ha]; decide) (kx_e13 ha) kx_inX11 tyX11_ok nmX11 rfl (by decide) hw hsm rfl hini hdecl (by decide +kernel) (by cases x <;> rfl) (by cases x <;> rfl) (Nat.le_of_ble_eq_true rfl) (fun b => by
    by_cases hb : b = a
    · rw [hb, va_up_self, kx_e13 (show xt (xsr σ 210 a x) a = 13 from ha)]
      have e9 : xr (xsr σ 210 a x) 210 a = x := va_up_self _ a x
      show _ = Sum.inr (12, _)
      rw [e9]
      rfl
    · rw [va_up_ne _ _ hb, kx_nsr hb]) (fun _ h => h) rfl rfl hdg kk
theorem xg_X11_crews {ref : String} {a : Nat} (F : CallFix p m c cc nL s args kt_ own) (C : kx_X G c0 s H locs σ) (ha : xt σ a = 13) (hw : Cond.fieldLink own index ref "crews" "Ljava/util/List;" ∈ kt_) (hsm : ∀ x, s.fieldFound? "LogRiver" "crews" "Ljava/util/List;" = some x → s.fieldFound? ref "crews" "Ljava/util/List;" = some x) (hdg : decode cc pc = .ok (.getfield index, 3)) (kk : kx_W p l e fr lo c0 s m args below meth c H locs σ Q (F0 m (pc + 3) ls (va_rf (xr σ 211 a) :: rest))) : kx_W p l e fr lo c0 s m args below meth c H locs σ Q (F0 m pc ls (.ref a :: rest)) :=
  kx_get (k := 3) (v := va_rf (xr σ 211 a)) F C (by rw [ha]; decide) (kx_e13 ha) kx_inX11 rfl (by decide) hw hsm rfl hdg kk
theorem xp_X11_crews {ref : String} {a : Nat} {x : Option Nat} (F : CallFix p m c cc nL s args kt_ own) (C : kx_X G c0 s H locs σ) (ha : xt σ a = 13) (hw : Cond.fieldLink own index ref "crews" "Ljava/util/List;" ∈ kt_) (hsm : ∀ x, s.fieldFound? "LogRiver" "crews" "Ljava/util/List;" = some x → s.fieldFound? ref "crews" "Ljava/util/List;" = some x) (hini : meth.name = "<init>") (hdecl : "LogRiver" = own) (hdg : decode cc pc = .ok (.putfield index, 3)) (kk : ∀ (H1 : Heap) (locs1 : List Loc), kx_X G c0 s H1 locs1 (xsr σ 211 a x) → kx_W p l e fr lo c0 s m args below meth c H1 locs1 (xsr σ 211 a x) Q (F0 m (pc + 3) ls rest)) : kx_W p l e fr lo c0 s m args below meth c H locs σ Q (F0 m pc ls (va_rf x :: .ref a :: rest)) :=
  kx_putF (k := 3) (τ := xsr σ 211 a x) (ty := .object "java/util/List") (ty0 := tyX11) F C (by rw [ha]; decide) (kx_e13 ha) kx_inX11 tyX11_ok nmX11 rfl (by decide) hw hsm rfl hini hdecl (by decide +kernel) (by cases x <;> rfl) (by cases x <;> rfl) (Nat.le_of_ble_eq_true rfl) (fun b => by
    by_cases hb : b = a
    · rw [hb, va_up_self, kx_e13 (show xt (xsr σ 211 a x) a = 13 from ha)]
      have e9 : xr (xsr σ 211 a x) 211 a = x := va_up_self _ a x
      show _ = Sum.inr (12, _)
      rw [e9]
      rfl
    · rw [va_up_ne _ _ hb, kx_nsr hb]) (fun _ h => h) rfl rfl hdg kk
theorem xg_X11_orders {ref : String} {a : Nat} (F : CallFix p m c cc nL s args kt_ own) (C : kx_X G c0 s H locs σ) (ha : xt σ a = 13) (hw : Cond.fieldLink own index ref "orders" "Ljava/util/List;" ∈ kt_) (hsm : ∀ x, s.fieldFound? "LogRiver" "orders" "Ljava/util/List;" = some x → s.fieldFound? ref "orders" "Ljava/util/List;" = some x) (hdg : decode cc pc = .ok (.getfield index, 3)) (kk : kx_W p l e fr lo c0 s m args below meth c H locs σ Q (F0 m (pc + 3) ls (va_rf (xr σ 212 a) :: rest))) : kx_W p l e fr lo c0 s m args below meth c H locs σ Q (F0 m pc ls (.ref a :: rest)) :=
  kx_get (k := 4) (v := va_rf (xr σ 212 a)) F C (by rw [ha]; decide) (kx_e13 ha) kx_inX11 rfl (by decide) hw hsm rfl hdg kk
theorem xp_X11_orders {ref : String} {a : Nat} {x : Option Nat} (F : CallFix p m c cc nL s args kt_ own) (C : kx_X G c0 s H locs σ) (ha : xt σ a = 13) (hw : Cond.fieldLink own index ref "orders" "Ljava/util/List;" ∈ kt_) (hsm : ∀ x, s.fieldFound? "LogRiver" "orders" "Ljava/util/List;" = some x → s.fieldFound? ref "orders" "Ljava/util/List;" = some x) (hini : meth.name = "<init>") (hdecl : "LogRiver" = own) (hdg : decode cc pc = .ok (.putfield index, 3)) (kk : ∀ (H1 : Heap) (locs1 : List Loc), kx_X G c0 s H1 locs1 (xsr σ 212 a x) → kx_W p l e fr lo c0 s m args below meth c H1 locs1 (xsr σ 212 a x) Q (F0 m (pc + 3) ls rest)) : kx_W p l e fr lo c0 s m args below meth c H locs σ Q (F0 m pc ls (va_rf x :: .ref a :: rest)) :=
  kx_putF (k := 4) (τ := xsr σ 212 a x) (ty := .object "java/util/List") (ty0 := tyX11) F C (by rw [ha]; decide) (kx_e13 ha) kx_inX11 tyX11_ok nmX11 rfl (by decide) hw hsm rfl hini hdecl (by decide +kernel) (by cases x <;> rfl) (by cases x <;> rfl) (Nat.le_of_ble_eq_true rfl) (fun b => by
    by_cases hb : b = a
    · rw [hb, va_up_self, kx_e13 (show xt (xsr σ 212 a x) a = 13 from ha)]
      have e9 : xr (xsr σ 212 a x) 212 a = x := va_up_self _ a x
      show _ = Sum.inr (12, _)
      rw [e9]
      rfl
    · rw [va_up_ne _ _ hb, kx_nsr hb]) (fun _ h => h) rfl rfl hdg kk
theorem xg_X11_tape {ref : String} {a : Nat} (F : CallFix p m c cc nL s args kt_ own) (C : kx_X G c0 s H locs σ) (ha : xt σ a = 13) (hw : Cond.fieldLink own index ref "tape" "LLogRiver$Tape;" ∈ kt_) (hsm : ∀ x, s.fieldFound? "LogRiver" "tape" "LLogRiver$Tape;" = some x → s.fieldFound? ref "tape" "LLogRiver$Tape;" = some x) (hdg : decode cc pc = .ok (.getfield index, 3)) (kk : kx_W p l e fr lo c0 s m args below meth c H locs σ Q (F0 m (pc + 3) ls (va_rf (xr σ 213 a) :: rest))) : kx_W p l e fr lo c0 s m args below meth c H locs σ Q (F0 m pc ls (.ref a :: rest)) :=
  kx_get (k := 5) (v := va_rf (xr σ 213 a)) F C (by rw [ha]; decide) (kx_e13 ha) kx_inX11 rfl (by decide) hw hsm rfl hdg kk
theorem xp_X11_tape {ref : String} {a : Nat} {x : Option Nat} (F : CallFix p m c cc nL s args kt_ own) (C : kx_X G c0 s H locs σ) (ha : xt σ a = 13) (hw : Cond.fieldLink own index ref "tape" "LLogRiver$Tape;" ∈ kt_) (hsm : ∀ x, s.fieldFound? "LogRiver" "tape" "LLogRiver$Tape;" = some x → s.fieldFound? ref "tape" "LLogRiver$Tape;" = some x) (hini : meth.name = "<init>") (hdecl : "LogRiver" = own) (hdg : decode cc pc = .ok (.putfield index, 3)) (kk : ∀ (H1 : Heap) (locs1 : List Loc), kx_X G c0 s H1 locs1 (xsr σ 213 a x) → kx_W p l e fr lo c0 s m args below meth c H1 locs1 (xsr σ 213 a x) Q (F0 m (pc + 3) ls rest)) : kx_W p l e fr lo c0 s m args below meth c H locs σ Q (F0 m pc ls (va_rf x :: .ref a :: rest)) :=
  kx_putF (k := 5) (τ := xsr σ 213 a x) (ty := .object "LogRiver$Tape") (ty0 := tyX11) F C (by rw [ha]; decide) (kx_e13 ha) kx_inX11 tyX11_ok nmX11 rfl (by decide) hw hsm rfl hini hdecl (by decide +kernel) (by cases x <;> rfl) (by cases x <;> rfl) (Nat.le_of_ble_eq_true rfl) (fun b => by
    by_cases hb : b = a
    · rw [hb, va_up_self, kx_e13 (show xt (xsr σ 213 a x) a = 13 from ha)]
      have e9 : xr (xsr σ 213 a x) 213 a = x := va_up_self _ a x
      show _ = Sum.inr (12, _)
      rw [e9]
      rfl
    · rw [va_up_ne _ _ hb, kx_nsr hb]) (fun _ h => h) rfl rfl hdg kk
theorem xg_X11_reader {ref : String} {a : Nat} (F : CallFix p m c cc nL s args kt_ own) (C : kx_X G c0 s H locs σ) (ha : xt σ a = 13) (hw : Cond.fieldLink own index ref "reader" "LLogRiver$LawReader;" ∈ kt_) (hsm : ∀ x, s.fieldFound? "LogRiver" "reader" "LLogRiver$LawReader;" = some x → s.fieldFound? ref "reader" "LLogRiver$LawReader;" = some x) (hdg : decode cc pc = .ok (.getfield index, 3)) (kk : kx_W p l e fr lo c0 s m args below meth c H locs σ Q (F0 m (pc + 3) ls (va_rf (xr σ 214 a) :: rest))) : kx_W p l e fr lo c0 s m args below meth c H locs σ Q (F0 m pc ls (.ref a :: rest)) :=
  kx_get (k := 6) (v := va_rf (xr σ 214 a)) F C (by rw [ha]; decide) (kx_e13 ha) kx_inX11 rfl (by decide) hw hsm rfl hdg kk
theorem xp_X11_reader {ref : String} {a : Nat} {x : Option Nat} (F : CallFix p m c cc nL s args kt_ own) (C : kx_X G c0 s H locs σ) (ha : xt σ a = 13) (hw : Cond.fieldLink own index ref "reader" "LLogRiver$LawReader;" ∈ kt_) (hsm : ∀ x, s.fieldFound? "LogRiver" "reader" "LLogRiver$LawReader;" = some x → s.fieldFound? ref "reader" "LLogRiver$LawReader;" = some x) (hini : meth.name = "<init>") (hdecl : "LogRiver" = own) (hdg : decode cc pc = .ok (.putfield index, 3)) (kk : ∀ (H1 : Heap) (locs1 : List Loc), kx_X G c0 s H1 locs1 (xsr σ 214 a x) → kx_W p l e fr lo c0 s m args below meth c H1 locs1 (xsr σ 214 a x) Q (F0 m (pc + 3) ls rest)) : kx_W p l e fr lo c0 s m args below meth c H locs σ Q (F0 m pc ls (va_rf x :: .ref a :: rest)) :=
  kx_putF (k := 6) (τ := xsr σ 214 a x) (ty := .object "LogRiver$LawReader") (ty0 := tyX11) F C (by rw [ha]; decide) (kx_e13 ha) kx_inX11 tyX11_ok nmX11 rfl (by decide) hw hsm rfl hini hdecl (by decide +kernel) (by cases x <;> rfl) (by cases x <;> rfl) (Nat.le_of_ble_eq_true rfl) (fun b => by
    by_cases hb : b = a
    · rw [hb, va_up_self, kx_e13 (show xt (xsr σ 214 a x) a = 13 from ha)]
      have e9 : xr (xsr σ 214 a x) 214 a = x := va_up_self _ a x
      show _ = Sum.inr (12, _)
      rw [e9]
      rfl
    · rw [va_up_ne _ _ hb, kx_nsr hb]) (fun _ h => h) rfl rfl hdg kk
theorem xg_X11_judge {ref : String} {a : Nat} (F : CallFix p m c cc nL s args kt_ own) (C : kx_X G c0 s H locs σ) (ha : xt σ a = 13) (hw : Cond.fieldLink own index ref "judge" "LLogRiver$Judge;" ∈ kt_) (hsm : ∀ x, s.fieldFound? "LogRiver" "judge" "LLogRiver$Judge;" = some x → s.fieldFound? ref "judge" "LLogRiver$Judge;" = some x) (hdg : decode cc pc = .ok (.getfield index, 3)) (kk : kx_W p l e fr lo c0 s m args below meth c H locs σ Q (F0 m (pc + 3) ls (va_rf (xr σ 215 a) :: rest))) : kx_W p l e fr lo c0 s m args below meth c H locs σ Q (F0 m pc ls (.ref a :: rest)) :=
  kx_get (k := 7) (v := va_rf (xr σ 215 a)) F C (by rw [ha]; decide) (kx_e13 ha) kx_inX11 rfl (by decide) hw hsm rfl hdg kk
theorem xp_X11_judge {ref : String} {a : Nat} {x : Option Nat} (F : CallFix p m c cc nL s args kt_ own) (C : kx_X G c0 s H locs σ) (ha : xt σ a = 13) (hw : Cond.fieldLink own index ref "judge" "LLogRiver$Judge;" ∈ kt_) (hsm : ∀ x, s.fieldFound? "LogRiver" "judge" "LLogRiver$Judge;" = some x → s.fieldFound? ref "judge" "LLogRiver$Judge;" = some x) (hini : meth.name = "<init>") (hdecl : "LogRiver" = own) (hdg : decode cc pc = .ok (.putfield index, 3)) (kk : ∀ (H1 : Heap) (locs1 : List Loc), kx_X G c0 s H1 locs1 (xsr σ 215 a x) → kx_W p l e fr lo c0 s m args below meth c H1 locs1 (xsr σ 215 a x) Q (F0 m (pc + 3) ls rest)) : kx_W p l e fr lo c0 s m args below meth c H locs σ Q (F0 m pc ls (va_rf x :: .ref a :: rest)) :=
  kx_putF (k := 7) (τ := xsr σ 215 a x) (ty := .object "LogRiver$Judge") (ty0 := tyX11) F C (by rw [ha]; decide) (kx_e13 ha) kx_inX11 tyX11_ok nmX11 rfl (by decide) hw hsm rfl hini hdecl (by decide +kernel) (by cases x <;> rfl) (by cases x <;> rfl) (Nat.le_of_ble_eq_true rfl) (fun b => by
    by_cases hb : b = a
    · rw [hb, va_up_self, kx_e13 (show xt (xsr σ 215 a x) a = 13 from ha)]
      have e9 : xr (xsr σ 215 a x) 215 a = x := va_up_self _ a x
      show _ = Sum.inr (12, _)
      rw [e9]
      rfl
    · rw [va_up_ne _ _ hb, kx_nsr hb]) (fun _ h => h) rfl rfl hdg kk
theorem xg_X11_accounts {ref : String} {a : Nat} (F : CallFix p m c cc nL s args kt_ own) (C : kx_X G c0 s H locs σ) (ha : xt σ a = 13) (hw : Cond.fieldLink own index ref "accounts" "[J" ∈ kt_) (hsm : ∀ x, s.fieldFound? "LogRiver" "accounts" "[J" = some x → s.fieldFound? ref "accounts" "[J" = some x) (hdg : decode cc pc = .ok (.getfield index, 3)) (kk : kx_W p l e fr lo c0 s m args below meth c H locs σ Q (F0 m (pc + 3) ls (va_rf (xr σ 216 a) :: rest))) : kx_W p l e fr lo c0 s m args below meth c H locs σ Q (F0 m pc ls (.ref a :: rest)) :=
  kx_get (k := 8) (v := va_rf (xr σ 216 a)) F C (by rw [ha]; decide) (kx_e13 ha) kx_inX11 rfl (by decide) hw hsm rfl hdg kk
theorem xp_X11_accounts {ref : String} {a : Nat} {x : Option Nat} (F : CallFix p m c cc nL s args kt_ own) (C : kx_X G c0 s H locs σ) (ha : xt σ a = 13) (hw : Cond.fieldLink own index ref "accounts" "[J" ∈ kt_) (hsm : ∀ x, s.fieldFound? "LogRiver" "accounts" "[J" = some x → s.fieldFound? ref "accounts" "[J" = some x) (hini : meth.name = "<init>") (hdecl : "LogRiver" = own) (hdg : decode cc pc = .ok (.putfield index, 3)) (kk : ∀ (H1 : Heap) (locs1 : List Loc), kx_X G c0 s H1 locs1 (xsr σ 216 a x) → kx_W p l e fr lo c0 s m args below meth c H1 locs1 (xsr σ 216 a x) Q (F0 m (pc + 3) ls rest)) : kx_W p l e fr lo c0 s m args below meth c H locs σ Q (F0 m pc ls (va_rf x :: .ref a :: rest)) :=
  kx_putF (k := 8) (τ := xsr σ 216 a x) (ty := .array .long) (ty0 := tyX11) F C (by rw [ha]; decide) (kx_e13 ha) kx_inX11 tyX11_ok nmX11 rfl (by decide) hw hsm rfl hini hdecl (by decide +kernel) (by cases x <;> rfl) (by cases x <;> rfl) (Nat.le_of_ble_eq_true rfl) (fun b => by
    by_cases hb : b = a
    · rw [hb, va_up_self, kx_e13 (show xt (xsr σ 216 a x) a = 13 from ha)]
      have e9 : xr (xsr σ 216 a x) 216 a = x := va_up_self _ a x
      show _ = Sum.inr (12, _)
      rw [e9]
      rfl
    · rw [va_up_ne _ _ hb, kx_nsr hb]) (fun _ h => h) rfl rfl hdg kk
theorem xg_X11_hour {ref : String} {a : Nat} (F : CallFix p m c cc nL s args kt_ own) (C : kx_X G c0 s H locs σ) (ha : xt σ a = 13) (hw : Cond.fieldLink own index ref "hour" "I" ∈ kt_) (hsm : ∀ x, s.fieldFound? "LogRiver" "hour" "I" = some x → s.fieldFound? ref "hour" "I" = some x) (hdg : decode cc pc = .ok (.getfield index, 3)) (kk : kx_W p l e fr lo c0 s m args below meth c H locs σ Q (F0 m (pc + 3) ls (.int (xi σ 217 a) :: rest))) : kx_W p l e fr lo c0 s m args below meth c H locs σ Q (F0 m pc ls (.ref a :: rest)) :=
  kx_get (k := 9) (v := .int (xi σ 217 a)) F C (by rw [ha]; decide) (kx_e13 ha) kx_inX11 rfl (by decide) hw hsm rfl hdg kk
theorem xp_X11_hour {ref : String} {a : Nat} {x : Int32} (F : CallFix p m c cc nL s args kt_ own) (C : kx_X G c0 s H locs σ) (ha : xt σ a = 13) (hw : Cond.fieldLink own index ref "hour" "I" ∈ kt_) (hsm : ∀ x, s.fieldFound? "LogRiver" "hour" "I" = some x → s.fieldFound? ref "hour" "I" = some x) (hdg : decode cc pc = .ok (.putfield index, 3)) (kk : ∀ (H1 : Heap) (locs1 : List Loc), kx_X G c0 s H1 locs1 (xsi σ 217 a x) → kx_W p l e fr lo c0 s m args below meth c H1 locs1 (xsi σ 217 a x) Q (F0 m (pc + 3) ls rest)) : kx_W p l e fr lo c0 s m args below meth c H locs σ Q (F0 m pc ls (.int x :: .ref a :: rest)) :=
  kx_put (k := 9) (τ := xsi σ 217 a x) (ty := .int) (ty0 := tyX11) F C (by rw [ha]; decide) (kx_e13 ha) kx_inX11 tyX11_ok nmX11 rfl (by decide) hw hsm rfl (by decide +kernel) rfl rfl (Nat.le_of_ble_eq_true rfl) (fun b => by
    by_cases hb : b = a
    · rw [hb, va_up_self, kx_e13 (show xt (xsi σ 217 a x) a = 13 from ha)]
      have e9 : xi (xsi σ 217 a x) 217 a = x := va_up_self _ a x
      show _ = Sum.inr (12, _)
      rw [e9]
      rfl
    · rw [va_up_ne _ _ hb, kx_nsi hb]) (fun _ h => h) rfl rfl hdg kk
theorem xg_X11_boards {ref : String} {a : Nat} (F : CallFix p m c cc nL s args kt_ own) (C : kx_X G c0 s H locs σ) (ha : xt σ a = 13) (hw : Cond.fieldLink own index ref "boards" "I" ∈ kt_) (hsm : ∀ x, s.fieldFound? "LogRiver" "boards" "I" = some x → s.fieldFound? ref "boards" "I" = some x) (hdg : decode cc pc = .ok (.getfield index, 3)) (kk : kx_W p l e fr lo c0 s m args below meth c H locs σ Q (F0 m (pc + 3) ls (.int (xi σ 218 a) :: rest))) : kx_W p l e fr lo c0 s m args below meth c H locs σ Q (F0 m pc ls (.ref a :: rest)) :=
  kx_get (k := 10) (v := .int (xi σ 218 a)) F C (by rw [ha]; decide) (kx_e13 ha) kx_inX11 rfl (by decide) hw hsm rfl hdg kk
theorem xp_X11_boards {ref : String} {a : Nat} {x : Int32} (F : CallFix p m c cc nL s args kt_ own) (C : kx_X G c0 s H locs σ) (ha : xt σ a = 13) (hw : Cond.fieldLink own index ref "boards" "I" ∈ kt_) (hsm : ∀ x, s.fieldFound? "LogRiver" "boards" "I" = some x → s.fieldFound? ref "boards" "I" = some x) (hdg : decode cc pc = .ok (.putfield index, 3)) (kk : ∀ (H1 : Heap) (locs1 : List Loc), kx_X G c0 s H1 locs1 (xsi σ 218 a x) → kx_W p l e fr lo c0 s m args below meth c H1 locs1 (xsi σ 218 a x) Q (F0 m (pc + 3) ls rest)) : kx_W p l e fr lo c0 s m args below meth c H locs σ Q (F0 m pc ls (.int x :: .ref a :: rest)) :=
  kx_put (k := 10) (τ := xsi σ 218 a x) (ty := .int) (ty0 := tyX11) F C (by rw [ha]; decide) (kx_e13 ha) kx_inX11 tyX11_ok nmX11 rfl (by decide) hw hsm rfl (by decide +kernel) rfl rfl (Nat.le_of_ble_eq_true rfl) (fun b => by
    by_cases hb : b = a
    · rw [hb, va_up_self, kx_e13 (show xt (xsi σ 218 a x) a = 13 from ha)]
      have e9 : xi (xsi σ 218 a x) 218 a = x := va_up_self _ a x
      show _ = Sum.inr (12, _)
      rw [e9]
      rfl
    · rw [va_up_ne _ _ hb, kx_nsi hb]) (fun _ h => h) rfl rfl hdg kk
theorem xg_X11_faultPlace {ref : String} {a : Nat} (F : CallFix p m c cc nL s args kt_ own) (C : kx_X G c0 s H locs σ) (ha : xt σ a = 13) (hw : Cond.fieldLink own index ref "faultPlace" "I" ∈ kt_) (hsm : ∀ x, s.fieldFound? "LogRiver" "faultPlace" "I" = some x → s.fieldFound? ref "faultPlace" "I" = some x) (hdg : decode cc pc = .ok (.getfield index, 3)) (kk : kx_W p l e fr lo c0 s m args below meth c H locs σ Q (F0 m (pc + 3) ls (.int (xi σ 219 a) :: rest))) : kx_W p l e fr lo c0 s m args below meth c H locs σ Q (F0 m pc ls (.ref a :: rest)) :=
  kx_get (k := 11) (v := .int (xi σ 219 a)) F C (by rw [ha]; decide) (kx_e13 ha) kx_inX11 rfl (by decide) hw hsm rfl hdg kk
theorem xp_X11_faultPlace {ref : String} {a : Nat} {x : Int32} (F : CallFix p m c cc nL s args kt_ own) (C : kx_X G c0 s H locs σ) (ha : xt σ a = 13) (hw : Cond.fieldLink own index ref "faultPlace" "I" ∈ kt_) (hsm : ∀ x, s.fieldFound? "LogRiver" "faultPlace" "I" = some x → s.fieldFound? ref "faultPlace" "I" = some x) (hdg : decode cc pc = .ok (.putfield index, 3)) (kk : ∀ (H1 : Heap) (locs1 : List Loc), kx_X G c0 s H1 locs1 (xsi σ 219 a x) → kx_W p l e fr lo c0 s m args below meth c H1 locs1 (xsi σ 219 a x) Q (F0 m (pc + 3) ls rest)) : kx_W p l e fr lo c0 s m args below meth c H locs σ Q (F0 m pc ls (.int x :: .ref a :: rest)) :=
  kx_put (k := 11) (τ := xsi σ 219 a x) (ty := .int) (ty0 := tyX11) F C (by rw [ha]; decide) (kx_e13 ha) kx_inX11 tyX11_ok nmX11 rfl (by decide) hw hsm rfl (by decide +kernel) rfl rfl (Nat.le_of_ble_eq_true rfl) (fun b => by
    by_cases hb : b = a
    · rw [hb, va_up_self, kx_e13 (show xt (xsi σ 219 a x) a = 13 from ha)]
      have e9 : xi (xsi σ 219 a x) 219 a = x := va_up_self _ a x
      show _ = Sum.inr (12, _)
      rw [e9]
      rfl
    · rw [va_up_ne _ _ hb, kx_nsi hb]) (fun _ h => h) rfl rfl hdg kk
theorem xg_X11_melted {ref : String} {a : Nat} (F : CallFix p m c cc nL s args kt_ own) (C : kx_X G c0 s H locs σ) (ha : xt σ a = 13) (hw : Cond.fieldLink own index ref "melted" "J" ∈ kt_) (hsm : ∀ x, s.fieldFound? "LogRiver" "melted" "J" = some x → s.fieldFound? ref "melted" "J" = some x) (hdg : decode cc pc = .ok (.getfield index, 3)) (kk : kx_W p l e fr lo c0 s m args below meth c H locs σ Q (F0 m (pc + 3) ls (.long (xl σ 220 a) :: rest))) : kx_W p l e fr lo c0 s m args below meth c H locs σ Q (F0 m pc ls (.ref a :: rest)) :=
  kx_get (k := 12) (v := .long (xl σ 220 a)) F C (by rw [ha]; decide) (kx_e13 ha) kx_inX11 rfl (by decide) hw hsm rfl hdg kk
theorem xp_X11_melted {ref : String} {a : Nat} {x : Int64} (F : CallFix p m c cc nL s args kt_ own) (C : kx_X G c0 s H locs σ) (ha : xt σ a = 13) (hw : Cond.fieldLink own index ref "melted" "J" ∈ kt_) (hsm : ∀ x, s.fieldFound? "LogRiver" "melted" "J" = some x → s.fieldFound? ref "melted" "J" = some x) (hdg : decode cc pc = .ok (.putfield index, 3)) (kk : ∀ (H1 : Heap) (locs1 : List Loc), kx_X G c0 s H1 locs1 (xsl σ 220 a x) → kx_W p l e fr lo c0 s m args below meth c H1 locs1 (xsl σ 220 a x) Q (F0 m (pc + 3) ls rest)) : kx_W p l e fr lo c0 s m args below meth c H locs σ Q (F0 m pc ls (.long x :: .ref a :: rest)) :=
  kx_put (k := 12) (τ := xsl σ 220 a x) (ty := .long) (ty0 := tyX11) F C (by rw [ha]; decide) (kx_e13 ha) kx_inX11 tyX11_ok nmX11 rfl (by decide) hw hsm rfl (by decide +kernel) rfl rfl (Nat.le_of_ble_eq_true rfl) (fun b => by
    by_cases hb : b = a
    · rw [hb, va_up_self, kx_e13 (show xt (xsl σ 220 a x) a = 13 from ha)]
      have e9 : xl (xsl σ 220 a x) 220 a = x := va_up_self _ a x
      show _ = Sum.inr (12, _)
      rw [e9]
      rfl
    · rw [va_up_ne _ _ hb, kx_nsl hb]) (fun _ h => h) rfl rfl hdg kk
theorem xg_X11_wentToSea {ref : String} {a : Nat} (F : CallFix p m c cc nL s args kt_ own) (C : kx_X G c0 s H locs σ) (ha : xt σ a = 13) (hw : Cond.fieldLink own index ref "wentToSea" "J" ∈ kt_) (hsm : ∀ x, s.fieldFound? "LogRiver" "wentToSea" "J" = some x → s.fieldFound? ref "wentToSea" "J" = some x) (hdg : decode cc pc = .ok (.getfield index, 3)) (kk : kx_W p l e fr lo c0 s m args below meth c H locs σ Q (F0 m (pc + 3) ls (.long (xl σ 221 a) :: rest))) : kx_W p l e fr lo c0 s m args below meth c H locs σ Q (F0 m pc ls (.ref a :: rest)) :=
  kx_get (k := 13) (v := .long (xl σ 221 a)) F C (by rw [ha]; decide) (kx_e13 ha) kx_inX11 rfl (by decide) hw hsm rfl hdg kk
theorem xp_X11_wentToSea {ref : String} {a : Nat} {x : Int64} (F : CallFix p m c cc nL s args kt_ own) (C : kx_X G c0 s H locs σ) (ha : xt σ a = 13) (hw : Cond.fieldLink own index ref "wentToSea" "J" ∈ kt_) (hsm : ∀ x, s.fieldFound? "LogRiver" "wentToSea" "J" = some x → s.fieldFound? ref "wentToSea" "J" = some x) (hdg : decode cc pc = .ok (.putfield index, 3)) (kk : ∀ (H1 : Heap) (locs1 : List Loc), kx_X G c0 s H1 locs1 (xsl σ 221 a x) → kx_W p l e fr lo c0 s m args below meth c H1 locs1 (xsl σ 221 a x) Q (F0 m (pc + 3) ls rest)) : kx_W p l e fr lo c0 s m args below meth c H locs σ Q (F0 m pc ls (.long x :: .ref a :: rest)) :=
  kx_put (k := 13) (τ := xsl σ 221 a x) (ty := .long) (ty0 := tyX11) F C (by rw [ha]; decide) (kx_e13 ha) kx_inX11 tyX11_ok nmX11 rfl (by decide) hw hsm rfl (by decide +kernel) rfl rfl (Nat.le_of_ble_eq_true rfl) (fun b => by
    by_cases hb : b = a
    · rw [hb, va_up_self, kx_e13 (show xt (xsl σ 221 a x) a = 13 from ha)]
      have e9 : xl (xsl σ 221 a x) 221 a = x := va_up_self _ a x
      show _ = Sum.inr (12, _)
      rw [e9]
      rfl
    · rw [va_up_ne _ _ hb, kx_nsl hb]) (fun _ h => h) rfl rfl hdg kk
theorem xw_X11 (F : CallFix p m c cc nL s args kt_ own) (C : kx_X G c0 s H locs σ) (hN : xc σ < kx_N) (hcl : Cond.classLink own index RX11 ∈ kt_) (hdg : decode cc pc = .ok (.new index, 3)) (kk : ∀ (q : Nat) (H1 : Heap), xt σ q = 0 → q ≠ kx_z G → kx_X G c0 s H1 locs (xnew σ q 13) → kx_W p l e fr lo c0 s m args below meth c H1 locs (xnew σ q 13) Q (F0 m (pc + 3) ls (.ref q :: rest))) : kx_W p l e fr lo c0 s m args below meth c H locs σ Q (F0 m pc ls rest) :=
  kx_new (ci := 12) (fs := [.null, .null, .null, .null, .null, .null, .null, .null, .null, .int 0, .int 0, .int 0, .long 0, .long 0]) (tag := 13) F C hN kx_inX11 tyX11_ok hcl ux_116 ux_117 rfl kx_dfX11 (by decide) (fun q => by
    rw [kx_e13 (show xt (xnew σ q 13) q = 13 from va_up_self _ _ _)]
    simp only [xi, xr, xl, xnew, va_up_self, va_rf]) hdg kk
end

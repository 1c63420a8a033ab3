theorem dX11_ageLogs_0 : decode cX11_ageLogs 0 = .ok (.iconst 0, 1) := by decide +kernel
theorem dX11_ageLogs_1 : decode cX11_ageLogs 1 = .ok (.istore_n 1, 1) := by decide +kernel
theorem dX11_ageLogs_2 : decode cX11_ageLogs 2 = .ok (.iload_n 1, 1) := by decide +kernel
theorem dX11_ageLogs_3 : decode cX11_ageLogs 3 = .ok (.aload_n 0, 1) := by decide +kernel
theorem dX11_ageLogs_4 : decode cX11_ageLogs 4 = .ok (.getfield 10, 3) := by decide +kernel
theorem dX11_ageLogs_7 : decode cX11_ageLogs 7 = .ok (.invokeinterface 59 1, 5) := by decide +kernel
theorem dX11_ageLogs_12 : decode cX11_ageLogs 12 = .ok (.if_icmp .ge 60, 3) := by decide +kernel
theorem dX11_ageLogs_72 : decode cX11_ageLogs 72 = .ok (.return_, 1) := by decide +kernel
theorem dX11_freeJams_0 : decode cX11_freeJams 0 = .ok (.iconst 0, 1) := by decide +kernel
theorem dX11_freeJams_1 : decode cX11_freeJams 1 = .ok (.istore_n 1, 1) := by decide +kernel
theorem dX11_freeJams_2 : decode cX11_freeJams 2 = .ok (.iload_n 1, 1) := by decide +kernel
theorem dX11_freeJams_3 : decode cX11_freeJams 3 = .ok (.aload_n 0, 1) := by decide +kernel
theorem dX11_freeJams_4 : decode cX11_freeJams 4 = .ok (.getfield 22, 3) := by decide +kernel
theorem dX11_freeJams_7 : decode cX11_freeJams 7 = .ok (.invokeinterface 59 1, 5) := by decide +kernel
theorem dX11_freeJams_12 : decode cX11_freeJams 12 = .ok (.if_icmp .ge 52, 3) := by decide +kernel
theorem dX11_freeJams_64 : decode cX11_freeJams 64 = .ok (.return_, 1) := by decide +kernel
theorem dX11_hours_0 : decode cX11_hours 0 = .ok (.iload_n 1, 1) := by decide +kernel
theorem dX11_hours_1 : decode cX11_hours 1 = .ok (.iconst 0, 1) := by decide +kernel
theorem dX11_hours_2 : decode cX11_hours 2 = .ok (.sipush 200, 3) := by decide +kernel
theorem dX11_hours_5 : decode cX11_hours 5 = .ok (.invokestatic 65, 3) := by decide +kernel
theorem dX11_hours_8 : decode cX11_hours 8 = .ok (.ifCond .eq 15, 3) := by decide +kernel
theorem dX11_hours_11 : decode cX11_hours 11 = .ok (.aload_n 0, 1) := by decide +kernel
theorem dX11_hours_12 : decode cX11_hours 12 = .ok (.getfield 136, 3) := by decide +kernel
theorem dX11_hours_15 : decode cX11_hours 15 = .ok (.iload_n 1, 1) := by decide +kernel
theorem dX11_hours_16 : decode cX11_hours 16 = .ok (.iadd, 1) := by decide +kernel
theorem dX11_hours_17 : decode cX11_hours 17 = .ok (.sipush 20000, 3) := by decide +kernel
theorem dX11_hours_20 : decode cX11_hours 20 = .ok (.if_icmp .le 13, 3) := by decide +kernel
theorem dX11_hours_23 : decode cX11_hours 23 = .ok (.new 151, 3) := by decide +kernel
theorem dX11_hours_26 : decode cX11_hours 26 = .ok (.dup, 1) := by decide +kernel
theorem dX11_hours_27 : decode cX11_hours 27 = .ok (.ldc 224, 2) := by decide +kernel
theorem dX11_hours_29 : decode cX11_hours 29 = .ok (.invokespecial 155, 3) := by decide +kernel
theorem dX11_hours_32 : decode cX11_hours 32 = .ok (.athrow, 1) := by decide +kernel
theorem dX11_hours_33 : decode cX11_hours 33 = .ok (.iconst 0, 1) := by decide +kernel
theorem dX11_hours_34 : decode cX11_hours 34 = .ok (.istore_n 2, 1) := by decide +kernel
theorem dX11_hours_35 : decode cX11_hours 35 = .ok (.iload_n 2, 1) := by decide +kernel
theorem dX11_hours_36 : decode cX11_hours 36 = .ok (.iload_n 1, 1) := by decide +kernel
theorem dX11_hours_37 : decode cX11_hours 37 = .ok (.if_icmp .ge 47, 3) := by decide +kernel
theorem dX11_hours_40 : decode cX11_hours 40 = .ok (.aload_n 0, 1) := by decide +kernel
theorem dX11_hours_41 : decode cX11_hours 41 = .ok (.invokevirtual 226, 3) := by decide +kernel
theorem dX11_hours_44 : decode cX11_hours 44 = .ok (.aload_n 0, 1) := by decide +kernel
theorem dX11_hours_45 : decode cX11_hours 45 = .ok (.invokevirtual 229, 3) := by decide +kernel
theorem dX11_hours_48 : decode cX11_hours 48 = .ok (.aload_n 0, 1) := by decide +kernel
theorem dX11_hours_49 : decode cX11_hours 49 = .ok (.invokevirtual 232, 3) := by decide +kernel
theorem dX11_hours_52 : decode cX11_hours 52 = .ok (.aload_n 0, 1) := by decide +kernel
theorem dX11_hours_53 : decode cX11_hours 53 = .ok (.invokevirtual 235, 3) := by decide +kernel
theorem dX11_hours_56 : decode cX11_hours 56 = .ok (.aload_n 0, 1) := by decide +kernel
theorem dX11_hours_57 : decode cX11_hours 57 = .ok (.invokevirtual 238, 3) := by decide +kernel
theorem dX11_hours_60 : decode cX11_hours 60 = .ok (.aload_n 0, 1) := by decide +kernel
theorem dX11_hours_61 : decode cX11_hours 61 = .ok (.invokevirtual 241, 3) := by decide +kernel
theorem dX11_hours_64 : decode cX11_hours 64 = .ok (.aload_n 0, 1) := by decide +kernel
theorem dX11_hours_65 : decode cX11_hours 65 = .ok (.invokevirtual 244, 3) := by decide +kernel
theorem dX11_hours_68 : decode cX11_hours 68 = .ok (.aload_n 0, 1) := by decide +kernel
theorem dX11_hours_69 : decode cX11_hours 69 = .ok (.dup, 1) := by decide +kernel
theorem dX11_hours_70 : decode cX11_hours 70 = .ok (.getfield 136, 3) := by decide +kernel
theorem dX11_hours_73 : decode cX11_hours 73 = .ok (.iconst 1, 1) := by decide +kernel
theorem dX11_hours_74 : decode cX11_hours 74 = .ok (.iadd, 1) := by decide +kernel
theorem dX11_hours_75 : decode cX11_hours 75 = .ok (.putfield 136, 3) := by decide +kernel
theorem dX11_hours_78 : decode cX11_hours 78 = .ok (.iinc 2 1, 3) := by decide +kernel
theorem dX11_hours_81 : decode cX11_hours 81 = .ok (.goto (-46), 3) := by decide +kernel
theorem dX11_hours_84 : decode cX11_hours 84 = .ok (.aload_n 0, 1) := by decide +kernel
theorem dX11_hours_85 : decode cX11_hours 85 = .ok (.getfield 136, 3) := by decide +kernel
theorem dX11_hours_88 : decode cX11_hours 88 = .ok (.ireturn, 1) := by decide +kernel
theorem dX11_jamCells_0 : decode cX11_jamCells 0 = .ok (.iconst 0, 1) := by decide +kernel
theorem dX11_jamCells_1 : decode cX11_jamCells 1 = .ok (.istore_n 1, 1) := by decide +kernel
theorem dX11_jamCells_2 : decode cX11_jamCells 2 = .ok (.iload_n 1, 1) := by decide +kernel
theorem dX11_jamCells_3 : decode cX11_jamCells 3 = .ok (.aload_n 0, 1) := by decide +kernel
theorem dX11_jamCells_4 : decode cX11_jamCells 4 = .ok (.getfield 10, 3) := by decide +kernel
theorem dX11_jamCells_7 : decode cX11_jamCells 7 = .ok (.invokeinterface 59 1, 5) := by decide +kernel
theorem dX11_jamCells_12 : decode cX11_jamCells 12 = .ok (.if_icmp .ge 38, 3) := by decide +kernel
theorem dX11_jamCells_50 : decode cX11_jamCells 50 = .ok (.return_, 1) := by decide +kernel
theorem dX11_makeJamsKnown_0 : decode cX11_makeJamsKnown 0 = .ok (.iconst 0, 1) := by decide +kernel
theorem dX11_makeJamsKnown_1 : decode cX11_makeJamsKnown 1 = .ok (.istore_n 1, 1) := by decide +kernel
theorem dX11_makeJamsKnown_2 : decode cX11_makeJamsKnown 2 = .ok (.iload_n 1, 1) := by decide +kernel
theorem dX11_makeJamsKnown_3 : decode cX11_makeJamsKnown 3 = .ok (.aload_n 0, 1) := by decide +kernel
theorem dX11_makeJamsKnown_4 : decode cX11_makeJamsKnown 4 = .ok (.getfield 10, 3) := by decide +kernel
theorem dX11_makeJamsKnown_7 : decode cX11_makeJamsKnown 7 = .ok (.invokeinterface 59 1, 5) := by decide +kernel
theorem dX11_makeJamsKnown_12 : decode cX11_makeJamsKnown 12 = .ok (.if_icmp .ge 44, 3) := by decide +kernel
theorem dX11_makeJamsKnown_56 : decode cX11_makeJamsKnown 56 = .ok (.iconst 0, 1) := by decide +kernel
theorem dX11_makeJamsKnown_57 : decode cX11_makeJamsKnown 57 = .ok (.istore_n 1, 1) := by decide +kernel
theorem dX11_makeJamsKnown_58 : decode cX11_makeJamsKnown 58 = .ok (.iload_n 1, 1) := by decide +kernel
theorem dX11_makeJamsKnown_59 : decode cX11_makeJamsKnown 59 = .ok (.aload_n 0, 1) := by decide +kernel
theorem dX11_makeJamsKnown_60 : decode cX11_makeJamsKnown 60 = .ok (.getfield 22, 3) := by decide +kernel
theorem dX11_makeJamsKnown_63 : decode cX11_makeJamsKnown 63 = .ok (.invokeinterface 59 1, 5) := by decide +kernel
theorem dX11_makeJamsKnown_68 : decode cX11_makeJamsKnown 68 = .ok (.if_icmp .ge 28, 3) := by decide +kernel
theorem dX11_makeJamsKnown_96 : decode cX11_makeJamsKnown 96 = .ok (.return_, 1) := by decide +kernel
theorem dX11_moveLogs_0 : decode cX11_moveLogs 0 = .ok (.iconst 0, 1) := by decide +kernel
theorem dX11_moveLogs_1 : decode cX11_moveLogs 1 = .ok (.istore_n 1, 1) := by decide +kernel
theorem dX11_moveLogs_2 : decode cX11_moveLogs 2 = .ok (.iload_n 1, 1) := by decide +kernel
theorem dX11_moveLogs_3 : decode cX11_moveLogs 3 = .ok (.aload_n 0, 1) := by decide +kernel
theorem dX11_moveLogs_4 : decode cX11_moveLogs 4 = .ok (.getfield 10, 3) := by decide +kernel
theorem dX11_moveLogs_7 : decode cX11_moveLogs 7 = .ok (.invokeinterface 59 1, 5) := by decide +kernel
theorem dX11_moveLogs_12 : decode cX11_moveLogs 12 = .ok (.if_icmp .ge 72, 3) := by decide +kernel
theorem dX11_moveLogs_84 : decode cX11_moveLogs 84 = .ok (.return_, 1) := by decide +kernel
theorem dX11_runMills_0 : decode cX11_runMills 0 = .ok (.iconst 0, 1) := by decide +kernel
theorem dX11_runMills_1 : decode cX11_runMills 1 = .ok (.istore_n 1, 1) := by decide +kernel
theorem dX11_runMills_2 : decode cX11_runMills 2 = .ok (.iload_n 1, 1) := by decide +kernel
theorem dX11_runMills_3 : decode cX11_runMills 3 = .ok (.aload_n 0, 1) := by decide +kernel
theorem dX11_runMills_4 : decode cX11_runMills 4 = .ok (.getfield 10, 3) := by decide +kernel
theorem dX11_runMills_7 : decode cX11_runMills 7 = .ok (.invokeinterface 59 1, 5) := by decide +kernel
theorem dX11_runMills_12 : decode cX11_runMills 12 = .ok (.if_icmp .ge 85, 3) := by decide +kernel
theorem dX11_runMills_97 : decode cX11_runMills 97 = .ok (.return_, 1) := by decide +kernel
theorem dX11_runWater_0 : decode cX11_runWater 0 = .ok (.iconst 0, 1) := by decide +kernel
theorem dX11_runWater_1 : decode cX11_runWater 1 = .ok (.istore_n 1, 1) := by decide +kernel
theorem dX11_runWater_2 : decode cX11_runWater 2 = .ok (.iload_n 1, 1) := by decide +kernel
theorem dX11_runWater_3 : decode cX11_runWater 3 = .ok (.aload_n 0, 1) := by decide +kernel
theorem dX11_runWater_4 : decode cX11_runWater 4 = .ok (.getfield 10, 3) := by decide +kernel
theorem dX11_runWater_7 : decode cX11_runWater 7 = .ok (.invokeinterface 59 1, 5) := by decide +kernel
theorem dX11_runWater_12 : decode cX11_runWater 12 = .ok (.if_icmp .ge 45, 3) := by decide +kernel
theorem dX11_runWater_57 : decode cX11_runWater 57 = .ok (.aload_n 0, 1) := by decide +kernel
theorem dX11_runWater_58 : decode cX11_runWater 58 = .ok (.getfield 10, 3) := by decide +kernel
theorem dX11_runWater_61 : decode cX11_runWater 61 = .ok (.invokeinterface 59 1, 5) := by decide +kernel
theorem dX11_runWater_66 : decode cX11_runWater 66 = .ok (.iconst 1, 1) := by decide +kernel
theorem dX11_runWater_67 : decode cX11_runWater 67 = .ok (.isub, 1) := by decide +kernel
theorem dX11_runWater_68 : decode cX11_runWater 68 = .ok (.istore_n 1, 1) := by decide +kernel
theorem dX11_runWater_69 : decode cX11_runWater 69 = .ok (.iload_n 1, 1) := by decide +kernel
theorem dX11_runWater_70 : decode cX11_runWater 70 = .ok (.ifCond .lt 67, 3) := by decide +kernel
theorem dX11_runWater_137 : decode cX11_runWater 137 = .ok (.return_, 1) := by decide +kernel
set_option maxRecDepth 20000 in
theorem ggX11_ageLogs_Jx4a65c_size_8abf5 : GoodIn wsX11_ageLogs wsJx4a65c_size_8abf5 := goodIn_r _ [9, 10, 81, 82, 83] (by decide +kernel) (by decide +kernel)
set_option maxRecDepth 20000 in
theorem gX11_ageLogs_Jx4a65c_size_8abf5_f59Jx4a65c : GoodIn wsX11_ageLogs (va_wsF RX11 59 RJx4a65c ⟨"java/util/List", "size", "()I"⟩ yJx4a65c_size_8abf5 wsJx4a65c_size_8abf5) := goodIn_app (goodIn_of _ (by decide +kernel)) ggX11_ageLogs_Jx4a65c_size_8abf5
set_option maxRecDepth 20000 in
theorem ggX11_freeJams_Jx4a65c_size_8abf5 : GoodIn wsX11_freeJams wsJx4a65c_size_8abf5 := goodIn_r _ [10, 11, 62, 63, 64] (by decide +kernel) (by decide +kernel)
set_option maxRecDepth 20000 in
theorem gX11_freeJams_Jx4a65c_size_8abf5_f59Jx4a65c : GoodIn wsX11_freeJams (va_wsF RX11 59 RJx4a65c ⟨"java/util/List", "size", "()I"⟩ yJx4a65c_size_8abf5 wsJx4a65c_size_8abf5) := goodIn_app (goodIn_of _ (by decide +kernel)) ggX11_freeJams_Jx4a65c_size_8abf5
set_option maxRecDepth 20000 in
theorem ggX11_hours_X11_ageLogs : GoodIn wsX11_hours wsX11_ageLogs := goodIn_r _ [270, 12, 13, 66, 71, 20, 21, 22, 23, 24, 25, 26, 27, 28, 29, 30, 31, 32, 33, 34, 35, 36, 37, 38, 39, 40, 41, 42, 271, 272, 273, 274, 275, 276, 277, 278, 279, 280, 281, 282, 283, 222, 223, 224, 225, 226, 227, 228, 161, 162, 229, 202, 203, 204, 315, 316, 317, 318, 319, 320, 321, 322, 323, 324, 325, 326, 327, 328, 329, 330, 331, 332, 333, 334, 335, 336, 337, 338, 339, 340, 341, 342, 343, 344, 345, 346, 347, 348, 349, 350, 351, 352, 353, 354, 355, 356, 357] (by decide +kernel) (by decide +kernel)
set_option maxRecDepth 20000 in
theorem gX11_hours_X11_ageLogs : GoodIn wsX11_hours (wsV RX11 241 RX11 yX11_ageLogs wsX11_ageLogs) := goodIn_app (goodIn_of _ (by decide +kernel)) ggX11_hours_X11_ageLogs
set_option maxRecDepth 20000 in
theorem ggX11_hours_X11_freeJams : GoodIn wsX11_hours wsX11_freeJams := goodIn_r _ [242, 243, 244, 3, 245, 246, 20, 21, 22, 23, 24, 25, 26, 27, 28, 29, 30, 31, 32, 33, 34, 35, 36, 37, 38, 39, 40, 41, 42, 247, 248, 249, 46, 250, 83, 84, 85, 251, 88, 89, 252, 253, 254, 255, 256, 257, 315, 316, 317, 318, 319, 320, 321, 322, 323, 324, 325, 326, 327, 328, 369, 370, 342, 343, 344, 329, 330, 331, 332, 333, 334, 335, 336, 337, 338, 339, 340, 341, 345, 346, 347, 348] (by decide +kernel) (by decide +kernel)
set_option maxRecDepth 20000 in
theorem gX11_hours_X11_freeJams : GoodIn wsX11_hours (wsV RX11 235 RX11 yX11_freeJams wsX11_freeJams) := goodIn_app (goodIn_of _ (by decide +kernel)) ggX11_hours_X11_freeJams
set_option maxRecDepth 20000 in
theorem ggX11_hours_X11_isWithin : GoodIn wsX11_hours wsX11_isWithin := goodIn_r _ [7] (by decide +kernel) (by decide +kernel)
set_option maxRecDepth 20000 in
theorem gX11_hours_X11_isWithin : GoodIn wsX11_hours (va_wsS RX11 65 yX11_isWithin wsX11_isWithin) := goodIn_app (goodIn_of _ (by decide +kernel)) ggX11_hours_X11_isWithin
set_option maxRecDepth 20000 in
theorem ggX11_hours_X11_jamCells : GoodIn wsX11_hours wsX11_jamCells := goodIn_r _ [233, 12, 13, 15, 234, 20, 21, 22, 23, 24, 25, 26, 27, 28, 29, 30, 31, 32, 33, 34, 35, 36, 37, 38, 39, 40, 41, 42, 235, 236, 237, 46, 238, 83, 84, 86, 87, 85, 88, 89, 315, 316, 317, 318, 319, 320, 321, 322, 323, 324, 325, 326, 327, 328, 329, 330, 331, 332, 333, 334, 335, 336, 337, 338, 339, 340, 341, 342, 343, 344, 345, 346, 347, 348] (by decide +kernel) (by decide +kernel)
set_option maxRecDepth 20000 in
theorem gX11_hours_X11_jamCells : GoodIn wsX11_hours (wsV RX11 232 RX11 yX11_jamCells wsX11_jamCells) := goodIn_app (goodIn_of _ (by decide +kernel)) ggX11_hours_X11_jamCells
set_option maxRecDepth 20000 in
theorem ggX11_hours_X11_makeJamsKnown : GoodIn wsX11_hours wsX11_makeJamsKnown := goodIn_r _ [261, 12, 13, 262, 243, 244, 246, 20, 21, 22, 23, 24, 25, 26, 27, 28, 29, 30, 31, 32, 33, 34, 35, 36, 37, 38, 39, 40, 41, 42, 263, 264, 265, 46, 266, 83, 84, 85, 251, 88, 89, 315, 316, 317, 318, 319, 320, 321, 322, 323, 324, 325, 326, 327, 328, 329, 330, 331, 332, 333, 334, 335, 336, 337, 338, 339, 340, 341, 369, 370, 342, 343, 344, 345, 346, 347, 348] (by decide +kernel) (by decide +kernel)
set_option maxRecDepth 20000 in
theorem gX11_hours_X11_makeJamsKnown : GoodIn wsX11_hours (wsV RX11 238 RX11 yX11_makeJamsKnown wsX11_makeJamsKnown) := goodIn_app (goodIn_of _ (by decide +kernel)) ggX11_hours_X11_makeJamsKnown
set_option maxRecDepth 20000 in
theorem ggX11_hours_X11_moveLogs : GoodIn wsX11_hours wsX11_moveLogs := goodIn_r _ [64, 12, 13, 15, 65, 59, 55, 60, 66, 20, 21, 22, 23, 24, 25, 26, 27, 28, 29, 30, 31, 32, 33, 34, 35, 36, 37, 38, 39, 40, 41, 42, 67, 68, 69, 6, 70, 71, 72, 73, 74, 75, 76, 77, 78, 79, 80, 81, 46, 82, 83, 84, 85, 86, 87, 88, 89, 90, 91, 92, 93, 94, 95, 96, 97, 98, 99, 3, 100, 101, 102, 19, 17, 103, 104, 105, 106, 107, 108, 109, 110, 111, 112, 113, 114, 115, 116, 117, 118, 119, 120, 121, 122, 123, 124, 125, 126, 127, 128, 129, 130, 131, 132, 133, 134, 135, 136, 137, 138, 139, 140, 141, 142, 143, 144, 145, 146, 147, 148, 149, 150, 151, 152, 153, 154, 155, 156, 157, 158, 159, 160, 161, 162, 163, 164, 165, 166, 167, 168, 169, 170, 171, 172, 173, 174, 175, 176, 54, 56, 177, 178, 179, 180, 181, 182, 183, 184, 185, 186, 187, 188, 189, 190, 191, 192, 193, 194, 195, 196, 197, 198, 199, 200, 201, 202, 203, 204, 205, 206, 207, 208, 209, 210, 211, 212, 213, 214, 215, 216, 217, 218, 219, 220, 221, 222, 223, 224, 225, 226, 227, 228, 229, 315, 316, 317, 318, 319, 320, 321, 322, 323, 324, 325, 326, 327, 328, 329, 330, 331, 332, 333, 334, 335, 336, 337, 338, 339, 340, 341, 342, 343, 344, 345, 346, 347, 348, 349, 350, 351, 352, 353, 354, 355, 356, 357, 358, 359, 360, 361, 362, 363, 364, 365, 366, 367, 368] (by decide +kernel) (by decide +kernel)
set_option maxRecDepth 20000 in
theorem gX11_hours_X11_moveLogs : GoodIn wsX11_hours (wsV RX11 229 RX11 yX11_moveLogs wsX11_moveLogs) := goodIn_app (goodIn_of _ (by decide +kernel)) ggX11_hours_X11_moveLogs
set_option maxRecDepth 20000 in
theorem ggX11_hours_X11_runMills : GoodIn wsX11_hours wsX11_runMills := goodIn_r _ [287, 12, 13, 94, 288, 289, 20, 21, 22, 23, 24, 25, 26, 27, 28, 29, 30, 31, 32, 33, 34, 35, 36, 37, 38, 39, 40, 41, 42, 290, 291, 292, 6, 293, 294, 295, 296, 297, 298, 299, 106, 300, 301, 302, 303, 304, 305, 306, 307, 308, 309, 222, 223, 224, 225, 226, 227, 228, 161, 162, 229, 202, 203, 204, 310, 311, 312, 153, 313, 155, 314, 315, 316, 317, 318, 319, 320, 321, 322, 323, 324, 325, 326, 327, 328, 329, 330, 331, 332, 333, 334, 335, 336, 337, 338, 339, 340, 341, 358, 359, 360, 361, 342, 343, 344, 371, 372, 373, 349, 350, 351, 352, 353, 354, 355, 356, 357] (by decide +kernel) (by decide +kernel)
set_option maxRecDepth 20000 in
theorem gX11_hours_X11_runMills : GoodIn wsX11_hours (wsV RX11 244 RX11 yX11_runMills wsX11_runMills) := goodIn_app (goodIn_of _ (by decide +kernel)) ggX11_hours_X11_runMills
set_option maxRecDepth 20000 in
theorem ggX11_hours_X11_runWater : GoodIn wsX11_hours wsX11_runWater := goodIn_r _ [11, 12, 13, 14, 15, 16, 17, 18, 19, 20, 21, 22, 23, 24, 25, 26, 27, 28, 29, 30, 31, 32, 33, 34, 35, 36, 37, 38, 39, 40, 41, 42, 43, 44, 45, 46, 47, 48, 49, 50, 51, 52, 53, 54, 55, 56, 57, 58, 59, 60, 315, 316, 317, 318, 319, 320, 321, 322, 323, 324, 325, 326, 327, 328, 329, 330, 331, 332, 333, 334, 335, 336, 337, 338, 339, 340, 341, 342, 343, 344] (by decide +kernel) (by decide +kernel)
set_option maxRecDepth 20000 in
theorem gX11_hours_X11_runWater : GoodIn wsX11_hours (wsV RX11 226 RX11 yX11_runWater wsX11_runWater) := goodIn_app (goodIn_of _ (by decide +kernel)) ggX11_hours_X11_runWater
set_option maxRecDepth 20000 in
theorem ggX11_jamCells_Jx4a65c_size_8abf5 : GoodIn wsX11_jamCells wsJx4a65c_size_8abf5 := goodIn_r _ [9, 10, 67, 68, 69] (by decide +kernel) (by decide +kernel)
set_option maxRecDepth 20000 in
theorem gX11_jamCells_Jx4a65c_size_8abf5_f59Jx4a65c : GoodIn wsX11_jamCells (va_wsF RX11 59 RJx4a65c ⟨"java/util/List", "size", "()I"⟩ yJx4a65c_size_8abf5 wsJx4a65c_size_8abf5) := goodIn_app (goodIn_of _ (by decide +kernel)) ggX11_jamCells_Jx4a65c_size_8abf5
set_option maxRecDepth 20000 in
theorem ggX11_makeJamsKnown_Jx4a65c_size_8abf5 : GoodIn wsX11_makeJamsKnown wsJx4a65c_size_8abf5 := goodIn_r _ [11, 12, 70, 71, 72] (by decide +kernel) (by decide +kernel)
set_option maxRecDepth 20000 in
theorem gX11_makeJamsKnown_Jx4a65c_size_8abf5_f59Jx4a65c : GoodIn wsX11_makeJamsKnown (va_wsF RX11 59 RJx4a65c ⟨"java/util/List", "size", "()I"⟩ yJx4a65c_size_8abf5 wsJx4a65c_size_8abf5) := goodIn_app (goodIn_of _ (by decide +kernel)) ggX11_makeJamsKnown_Jx4a65c_size_8abf5
set_option maxRecDepth 20000 in
theorem ggX11_moveLogs_Jx4a65c_size_8abf5 : GoodIn wsX11_moveLogs wsJx4a65c_size_8abf5 := goodIn_r _ [13, 14, 229, 230, 231] (by decide +kernel) (by decide +kernel)
set_option maxRecDepth 20000 in
theorem gX11_moveLogs_Jx4a65c_size_8abf5_f59Jx4a65c : GoodIn wsX11_moveLogs (va_wsF RX11 59 RJx4a65c ⟨"java/util/List", "size", "()I"⟩ yJx4a65c_size_8abf5 wsJx4a65c_size_8abf5) := goodIn_app (goodIn_of _ (by decide +kernel)) ggX11_moveLogs_Jx4a65c_size_8abf5
set_option maxRecDepth 20000 in
theorem ggX11_runMills_Jx4a65c_size_8abf5 : GoodIn wsX11_runMills wsJx4a65c_size_8abf5 := goodIn_r _ [10, 11, 102, 103, 104] (by decide +kernel) (by decide +kernel)
set_option maxRecDepth 20000 in
theorem gX11_runMills_Jx4a65c_size_8abf5_f59Jx4a65c : GoodIn wsX11_runMills (va_wsF RX11 59 RJx4a65c ⟨"java/util/List", "size", "()I"⟩ yJx4a65c_size_8abf5 wsJx4a65c_size_8abf5) := goodIn_app (goodIn_of _ (by decide +kernel)) ggX11_runMills_Jx4a65c_size_8abf5
set_option maxRecDepth 20000 in
theorem ggX11_runWater_Jx4a65c_size_8abf5 : GoodIn wsX11_runWater wsJx4a65c_size_8abf5 := goodIn_r _ [13, 14, 77, 78, 79] (by decide +kernel) (by decide +kernel)
set_option maxRecDepth 20000 in
theorem gX11_runWater_Jx4a65c_size_8abf5_f59Jx4a65c : GoodIn wsX11_runWater (va_wsF RX11 59 RJx4a65c ⟨"java/util/List", "size", "()I"⟩ yJx4a65c_size_8abf5 wsJx4a65c_size_8abf5) := goodIn_app (goodIn_of _ (by decide +kernel)) ggX11_runWater_Jx4a65c_size_8abf5
set_option maxHeartbeats 8000000 in
set_option maxRecDepth 100000 in
/-- runWater: nothing is there -/
theorem c_X11_runWater (l : Launch) (hlt : l.stackTraces = false) (e0 : Nat) (dC : Nat → ClassId) (dI : Nat → Nat → Nat) (sz : Nat) (h : Nat → Nat) (hu : Int32) : Met l yX11_runWater wsX11_runWater ({ frames := 1, cells := 0, slots := 0, locals := 20 }) (va_Pc [.ref (h 0)] (pz_P e0 (dC, dI) [] [(h 0, .inr (12, [.ref (h 1), .ref (h 2), .ref (h 3), .ref (h 4), .ref (h 5), .ref (h 6), .ref (h 8), .ref (h 12), .ref (h 11), .int hu, .int 0, .int (-1), .long 0, .long 0])), (h 1, .inr (0, [.int 0, .ref e0, .int 0]))] sz)) (va_Qv (S := Unit) (fun _ : Unit => True) (fun u t => va_P (dC, dI) vwCl [(h 0, .inr (12, [.ref (h 1), .ref (h 2), .ref (h 3), .ref (h 4), .ref (h 5), .ref (h 6), .ref (h 8), .ref (h 12), .ref (h 11), .int hu, .int 0, .int (-1), .long 0, .long 0])), (h 1, .inr (0, [.int 0, .ref e0, .int 0]))] t.heap ∧ va_D (va_A [(h 0, .inr (12, [.ref (h 1), .ref (h 2), .ref (h 3), .ref (h 4), .ref (h 5), .ref (h 6), .ref (h 8), .ref (h 12), .ref (h 11), .int hu, .int 0, .int (-1), .long 0, .long 0])), (h 1, .inr (0, [.int 0, .ref e0, .int 0]))] sz) [(h 0, .inr (12, [.ref (h 1), .ref (h 2), .ref (h 3), .ref (h 4), .ref (h 5), .ref (h 6), .ref (h 8), .ref (h 12), .ref (h 11), .int hu, .int 0, .int (-1), .long 0, .long 0])), (h 1, .inr (0, [.int 0, .ref e0, .int 0]))]) (va_A [(h 0, .inr (12, [.ref (h 1), .ref (h 2), .ref (h 3), .ref (h 4), .ref (h 5), .ref (h 6), .ref (h 8), .ref (h 12), .ref (h 11), .int hu, .int 0, .int (-1), .long 0, .long 0])), (h 1, .inr (0, [.int 0, .ref e0, .int 0]))] sz)) 0 0 (va_A [(h 0, .inr (12, [.ref (h 1), .ref (h 2), .ref (h 3), .ref (h 4), .ref (h 5), .ref (h 6), .ref (h 8), .ref (h 12), .ref (h 11), .int hu, .int 0, .int (-1), .long 0, .long 0])), (h 1, .inr (0, [.int 0, .ref e0, .int 0]))] sz) := by
  refine Met.ofW (cc := cX11_runWater) (maxL := 3) (ret := none) (by decide) rfl ?_
  intro p e s m args below meth c s₁ B hml hv
  obtain ⟨rfl, hsz, hP, hK, hD0, hZ, hV, hT⟩ := hv
  have hx := B.exec
  have hb := B.bytes
  have hr := B.returns
  have hts := atoms_spec (ws := wsX11_runWater) B.pre
  have hown : s.vm.findClass RX11 = some m.cls := findClass_of_methodNamed B.named
  have hlocks := B.notSynchronized
  have hinX11 : ∀ w ∈ wsX110, w ∈ wsX11_runWater := fun w h => by unfold wsX11_runWater; simp only [List.mem_cons, List.mem_append, h, or_true, true_or]
  subst hsz
  have hD := hD0.self (sz := s.heap.size)
  generalize hAe : va_A [(h 0, .inr (12, [.ref (h 1), .ref (h 2), .ref (h 3), .ref (h 4), .ref (h 5), .ref (h 6), .ref (h 8), .ref (h 12), .ref (h 11), .int hu, .int 0, .int (-1), .long 0, .long 0])), (h 1, .inr (0, [.int 0, .ref e0, .int 0]))] s.heap.size = A at hD hZ hT ⊢
  have hA : ∀ q : Nat, s.heap.size ≤ q → A q := fun q h => by rw [← hAe]; exact Or.inr h
  have hS : va_S A s.heap s.heap [] := va_S.rf
  have hP : va_P (dC, dI) vwCl [(h 0, .inr (12, [.ref (h 1), .ref (h 2), .ref (h 3), .ref (h 4), .ref (h 5), .ref (h 6), .ref (h 8), .ref (h 12), .ref (h 11), .int hu, .int 0, .int (-1), .long 0, .long 0])), (h 1, .inr (0, [.int 0, .ref e0, .int 0]))] s.heap := hP
  have hl := lv_entry ([.ref (h 0)]) (n := 3) (Nat.le_of_ble_eq_true rfl)
  rw [lg_entry_eq]
  generalize (lg_sl ([.ref (h 0)]) ++ List.replicate (3 - (lg_sl ([.ref (h 0)])).length) Slot.unset).toArray = ls at hl ⊢
  have hl : lv_has ls 3 [(0, .ref (h 0))] := hl
  refine lv_iconst (v := 0) hx hb dX11_runWater_0 (by decide) ?_
  refine lv_istore_n (lv' := [(1, .int 0), (0, .ref (h 0))]) hx hb dX11_runWater_1 rfl hl (by decide) rfl (fun ls hl => ?_)
  refine lv_iload_n hx hb dX11_runWater_2 rfl (lv_at hl 0 rfl) ?_
  refine lv_aload_n hx hb dX11_runWater_3 rfl (lv_at hl 1 rfl) ?_
  refine va_get (D := (dC, dI)) (ci := 12) (v := .ref (h 1)) (C := RX11) (T := TX11) (N := 14) hx hb hts hinX11 hown hK hP 0 rfl rfl 0 (by decide) (hts (.fieldLink RX11 10 "LogRiver" "reaches" "Ljava/util/List;") (by decide +kernel)) (fun _ h9 => h9) rfl dX11_runWater_4 ?_
  have hPc := hP.sub (ws' := [(h 1, .inr (0, [.int 0, .ref e0, .int 0]))]) [1] rfl
  have hDc := hD.sub (ws' := [(h 1, .inr (0, [.int 0, .ref e0, .int 0]))]) [1] (by decide) rfl
  have hKc := hK.sub (tys' := []) [] rfl
  have hFc := va_free (wc := [(h 1, .inr (0, [.int 0, .ref e0, .int 0]))]) hD hS hA [1] rfl
  refine va_callFi (va_runF (As := []) (rest := [.int 0]) (hK.1 0 _ rfl).2 ⟨hx, hb, hml, hown, hts⟩ (c_Jx4a65c_size_8abf5 l hlt e0 dC dI s.heap.size (h 1) 0 (.ref e0) 0) (va_cwF 0 hts gX11_runWater_Jx4a65c_size_8abf5_f59Jx4a65c rfl rfl rfl hV.2.1 (by decide +kernel) ⟨Nat.le_of_ble_eq_true rfl, Nat.le_of_ble_eq_true rfl⟩) (pz_preV [] hPc hDc hKc hZ hV hT hS hFc (va_recv hKc hPc (ci := 0) (q0 := 0) rfl rfl)) rfl rfl hl.1 rfl (lv_room (Nat.le_of_ble_eq_true rfl)) dX11_runWater_7 ⟨Nat.le_of_ble_eq_true rfl, Nat.le_of_ble_eq_true rfl⟩) hS (fun q _ h => hFc q h) hFc (fun r_1 u_2 t H locs ht hvm hw_3 hB_4 hz1 hk1 hS => ?_)
  obtain ⟨hP1, hD1⟩ := hB_4
  rw [ht] at hP1
  obtain ⟨hP, hD⟩ := va_join (wr := [(h 0, .inr (12, [.ref (h 1), .ref (h 2), .ref (h 3), .ref (h 4), .ref (h 5), .ref (h 6), .ref (h 8), .ref (h 12), .ref (h 11), .int hu, .int 0, .int (-1), .long 0, .long 0]))]) (w1 := [(h 1, .inr (0, [.int 0, .ref e0, .int 0]))]) hP hD [1] [0] rfl rfl (by decide) (by decide) hk1 hFc hP1 hD1
  have hP : va_P (dC, dI) vwCl [(h 0, .inr (12, [.ref (h 1), .ref (h 2), .ref (h 3), .ref (h 4), .ref (h 5), .ref (h 6), .ref (h 8), .ref (h 12), .ref (h 11), .int hu, .int 0, .int (-1), .long 0, .long 0])), (h 1, .inr (0, [.int 0, .ref e0, .int 0]))] H := hP
  have hD : va_D A [(h 0, .inr (12, [.ref (h 1), .ref (h 2), .ref (h 3), .ref (h 4), .ref (h 5), .ref (h 6), .ref (h 8), .ref (h 12), .ref (h 11), .int hu, .int 0, .int (-1), .long 0, .long 0])), (h 1, .inr (0, [.int 0, .ref e0, .int 0]))] := hD
  subst hw_3
  refine lv_icmp_ge (tgt := 57) hx hb dX11_runWater_12 (by decide) (fun c_5 => ?_) (fun c_5 => ?_)
  rotate_left
  · exact absurd c_5 (by decide)
  refine lv_aload_n hx hb dX11_runWater_57 rfl (lv_at hl 1 rfl) ?_
  refine va_get (D := (dC, dI)) (ci := 12) (v := .ref (h 1)) (C := RX11) (T := TX11) (N := 14) hx hb hts hinX11 hown hK hP 0 rfl rfl 0 (by decide) (hts (.fieldLink RX11 10 "LogRiver" "reaches" "Ljava/util/List;") (by decide +kernel)) (fun _ h9 => h9) rfl dX11_runWater_58 ?_
  have hPc := hP.sub (ws' := [(h 1, .inr (0, [.int 0, .ref e0, .int 0]))]) [1] rfl
  have hDc := hD.sub (ws' := [(h 1, .inr (0, [.int 0, .ref e0, .int 0]))]) [1] (by decide) rfl
  have hKc := hK.sub (tys' := []) [] rfl
  have hFc := va_free (wc := [(h 1, .inr (0, [.int 0, .ref e0, .int 0]))]) hD hS hA [1] rfl
  refine va_callFi (va_runF (As := []) (rest := []) (hK.1 0 _ rfl).2 ⟨hx, hb, hml, hown, hts⟩ (c_Jx4a65c_size_8abf5 l hlt e0 dC dI H.size (h 1) 0 (.ref e0) 0) (va_cwF 0 hts gX11_runWater_Jx4a65c_size_8abf5_f59Jx4a65c rfl rfl rfl hV.2.1 (by decide +kernel) ⟨Nat.le_of_ble_eq_true rfl, Nat.le_of_ble_eq_true rfl⟩) (pz_preV [] hPc hDc hKc hZ hV hT hS hFc (va_recv hKc hPc (ci := 0) (q0 := 0) rfl rfl)) rfl rfl hl.1 rfl (lv_room (Nat.le_of_ble_eq_true rfl)) dX11_runWater_61 ⟨Nat.le_of_ble_eq_true rfl, Nat.le_of_ble_eq_true rfl⟩) hS (fun q _ h => hFc q h) hFc (fun r_6 u_7 t H locs ht hvm hw_8 hB_9 hz1 hk1 hS => ?_)
  obtain ⟨hP1, hD1⟩ := hB_9
  rw [ht] at hP1
  obtain ⟨hP, hD⟩ := va_join (wr := [(h 0, .inr (12, [.ref (h 1), .ref (h 2), .ref (h 3), .ref (h 4), .ref (h 5), .ref (h 6), .ref (h 8), .ref (h 12), .ref (h 11), .int hu, .int 0, .int (-1), .long 0, .long 0]))]) (w1 := [(h 1, .inr (0, [.int 0, .ref e0, .int 0]))]) hP hD [1] [0] rfl rfl (by decide) (by decide) hk1 hFc hP1 hD1
  have hP : va_P (dC, dI) vwCl [(h 0, .inr (12, [.ref (h 1), .ref (h 2), .ref (h 3), .ref (h 4), .ref (h 5), .ref (h 6), .ref (h 8), .ref (h 12), .ref (h 11), .int hu, .int 0, .int (-1), .long 0, .long 0])), (h 1, .inr (0, [.int 0, .ref e0, .int 0]))] H := hP
  have hD : va_D A [(h 0, .inr (12, [.ref (h 1), .ref (h 2), .ref (h 3), .ref (h 4), .ref (h 5), .ref (h 6), .ref (h 8), .ref (h 12), .ref (h 11), .int hu, .int 0, .int (-1), .long 0, .long 0])), (h 1, .inr (0, [.int 0, .ref e0, .int 0]))] := hD
  subst hw_8
  refine lv_iconst (v := 1) hx hb dX11_runWater_66 (by decide) ?_
  refine lv_isub hx hb dX11_runWater_67 ?_
  refine lv_topi (fun x_10 ex_10 => ?_)
  obtain rfl : x_10 = (-1) := ex_10.trans (by decide)
  refine lv_istore_n (lv' := [(1, .int (-1)), (0, .ref (h 0))]) hx hb dX11_runWater_68 rfl hl (by decide) rfl (fun ls hl => ?_)
  refine lv_iload_n hx hb dX11_runWater_69 rfl (lv_at hl 0 rfl) ?_
  refine lv_if_lt (tgt := 137) hx hb dX11_runWater_70 (by decide) (fun c_11 => ?_) (fun c_11 => ?_)
  rotate_left
  · exact absurd c_11 (by decide)
  refine W.widen (k := 0) (n := 0) (Nat.le_of_ble_eq_true rfl) (Nat.le_of_ble_eq_true rfl) ?_
  have hP9 := hP.sub (ws' := [(h 0, .inr (12, [.ref (h 1), .ref (h 2), .ref (h 3), .ref (h 4), .ref (h 5), .ref (h 6), .ref (h 8), .ref (h 12), .ref (h 11), .int hu, .int 0, .int (-1), .long 0, .long 0])), (h 1, .inr (0, [.int 0, .ref e0, .int 0]))]) [0, 1] rfl
  have hD9 := hD.sub (ws' := [(h 0, .inr (12, [.ref (h 1), .ref (h 2), .ref (h 3), .ref (h 4), .ref (h 5), .ref (h 6), .ref (h 8), .ref (h 12), .ref (h 11), .int hu, .int 0, .int (-1), .long 0, .long 0])), (h 1, .inr (0, [.int 0, .ref e0, .int 0]))]) [0, 1] (by decide) rfl
  exact W.vret hx hb hr (fun t ht hW => ⟨⟨(), rfl, trivial, ⟨(by rw [ht]; exact hP9), hD9⟩⟩, hS.F ht⟩) hS.2.2 dX11_runWater_137
set_option maxHeartbeats 8000000 in
set_option maxRecDepth 100000 in
/-- moveLogs: nothing is there -/
theorem c_X11_moveLogs (l : Launch) (hlt : l.stackTraces = false) (e0 : Nat) (dC : Nat → ClassId) (dI : Nat → Nat → Nat) (sz : Nat) (h : Nat → Nat) (hu : Int32) : Met l yX11_moveLogs wsX11_moveLogs ({ frames := 1, cells := 0, slots := 0, locals := 20 }) (va_Pc [.ref (h 0)] (pz_P e0 (dC, dI) [] [(h 0, .inr (12, [.ref (h 1), .ref (h 2), .ref (h 3), .ref (h 4), .ref (h 5), .ref (h 6), .ref (h 8), .ref (h 12), .ref (h 11), .int hu, .int 0, .int (-1), .long 0, .long 0])), (h 1, .inr (0, [.int 0, .ref e0, .int 0]))] sz)) (va_Qv (S := Unit) (fun _ : Unit => True) (fun u t => va_P (dC, dI) vwCl [(h 0, .inr (12, [.ref (h 1), .ref (h 2), .ref (h 3), .ref (h 4), .ref (h 5), .ref (h 6), .ref (h 8), .ref (h 12), .ref (h 11), .int hu, .int 0, .int (-1), .long 0, .long 0])), (h 1, .inr (0, [.int 0, .ref e0, .int 0]))] t.heap ∧ va_D (va_A [(h 0, .inr (12, [.ref (h 1), .ref (h 2), .ref (h 3), .ref (h 4), .ref (h 5), .ref (h 6), .ref (h 8), .ref (h 12), .ref (h 11), .int hu, .int 0, .int (-1), .long 0, .long 0])), (h 1, .inr (0, [.int 0, .ref e0, .int 0]))] sz) [(h 0, .inr (12, [.ref (h 1), .ref (h 2), .ref (h 3), .ref (h 4), .ref (h 5), .ref (h 6), .ref (h 8), .ref (h 12), .ref (h 11), .int hu, .int 0, .int (-1), .long 0, .long 0])), (h 1, .inr (0, [.int 0, .ref e0, .int 0]))]) (va_A [(h 0, .inr (12, [.ref (h 1), .ref (h 2), .ref (h 3), .ref (h 4), .ref (h 5), .ref (h 6), .ref (h 8), .ref (h 12), .ref (h 11), .int hu, .int 0, .int (-1), .long 0, .long 0])), (h 1, .inr (0, [.int 0, .ref e0, .int 0]))] sz)) 0 0 (va_A [(h 0, .inr (12, [.ref (h 1), .ref (h 2), .ref (h 3), .ref (h 4), .ref (h 5), .ref (h 6), .ref (h 8), .ref (h 12), .ref (h 11), .int hu, .int 0, .int (-1), .long 0, .long 0])), (h 1, .inr (0, [.int 0, .ref e0, .int 0]))] sz) := by
  refine Met.ofW (cc := cX11_moveLogs) (maxL := 5) (ret := none) (by decide) rfl ?_
  intro p e s m args below meth c s₁ B hml hv
  obtain ⟨rfl, hsz, hP, hK, hD0, hZ, hV, hT⟩ := hv
  have hx := B.exec
  have hb := B.bytes
  have hr := B.returns
  have hts := atoms_spec (ws := wsX11_moveLogs) B.pre
  have hown : s.vm.findClass RX11 = some m.cls := findClass_of_methodNamed B.named
  have hlocks := B.notSynchronized
  have hinX11 : ∀ w ∈ wsX110, w ∈ wsX11_moveLogs := fun w h => by unfold wsX11_moveLogs; simp only [List.mem_cons, List.mem_append, h, or_true, true_or]
  subst hsz
  have hD := hD0.self (sz := s.heap.size)
  generalize hAe : va_A [(h 0, .inr (12, [.ref (h 1), .ref (h 2), .ref (h 3), .ref (h 4), .ref (h 5), .ref (h 6), .ref (h 8), .ref (h 12), .ref (h 11), .int hu, .int 0, .int (-1), .long 0, .long 0])), (h 1, .inr (0, [.int 0, .ref e0, .int 0]))] s.heap.size = A at hD hZ hT ⊢
  have hA : ∀ q : Nat, s.heap.size ≤ q → A q := fun q h => by rw [← hAe]; exact Or.inr h
  have hS : va_S A s.heap s.heap [] := va_S.rf
  have hP : va_P (dC, dI) vwCl [(h 0, .inr (12, [.ref (h 1), .ref (h 2), .ref (h 3), .ref (h 4), .ref (h 5), .ref (h 6), .ref (h 8), .ref (h 12), .ref (h 11), .int hu, .int 0, .int (-1), .long 0, .long 0])), (h 1, .inr (0, [.int 0, .ref e0, .int 0]))] s.heap := hP
  have hl := lv_entry ([.ref (h 0)]) (n := 5) (Nat.le_of_ble_eq_true rfl)
  rw [lg_entry_eq]
  generalize (lg_sl ([.ref (h 0)]) ++ List.replicate (5 - (lg_sl ([.ref (h 0)])).length) Slot.unset).toArray = ls at hl ⊢
  have hl : lv_has ls 5 [(0, .ref (h 0))] := hl
  refine lv_iconst (v := 0) hx hb dX11_moveLogs_0 (by decide) ?_
  refine lv_istore_n (lv' := [(1, .int 0), (0, .ref (h 0))]) hx hb dX11_moveLogs_1 rfl hl (by decide) rfl (fun ls hl => ?_)
  refine lv_iload_n hx hb dX11_moveLogs_2 rfl (lv_at hl 0 rfl) ?_
  refine lv_aload_n hx hb dX11_moveLogs_3 rfl (lv_at hl 1 rfl) ?_
  refine va_get (D := (dC, dI)) (ci := 12) (v := .ref (h 1)) (C := RX11) (T := TX11) (N := 14) hx hb hts hinX11 hown hK hP 0 rfl rfl 0 (by decide) (hts (.fieldLink RX11 10 "LogRiver" "reaches" "Ljava/util/List;") (by decide +kernel)) (fun _ h9 => h9) rfl dX11_moveLogs_4 ?_
  have hPc := hP.sub (ws' := [(h 1, .inr (0, [.int 0, .ref e0, .int 0]))]) [1] rfl
  have hDc := hD.sub (ws' := [(h 1, .inr (0, [.int 0, .ref e0, .int 0]))]) [1] (by decide) rfl
  have hKc := hK.sub (tys' := []) [] rfl
  have hFc := va_free (wc := [(h 1, .inr (0, [.int 0, .ref e0, .int 0]))]) hD hS hA [1] rfl
  refine va_callFi (va_runF (As := []) (rest := [.int 0]) (hK.1 0 _ rfl).2 ⟨hx, hb, hml, hown, hts⟩ (c_Jx4a65c_size_8abf5 l hlt e0 dC dI s.heap.size (h 1) 0 (.ref e0) 0) (va_cwF 0 hts gX11_moveLogs_Jx4a65c_size_8abf5_f59Jx4a65c rfl rfl rfl hV.2.1 (by decide +kernel) ⟨Nat.le_of_ble_eq_true rfl, Nat.le_of_ble_eq_true rfl⟩) (pz_preV [] hPc hDc hKc hZ hV hT hS hFc (va_recv hKc hPc (ci := 0) (q0 := 0) rfl rfl)) rfl rfl hl.1 rfl (lv_room (Nat.le_of_ble_eq_true rfl)) dX11_moveLogs_7 ⟨Nat.le_of_ble_eq_true rfl, Nat.le_of_ble_eq_true rfl⟩) hS (fun q _ h => hFc q h) hFc (fun r_1 u_2 t H locs ht hvm hw_3 hB_4 hz1 hk1 hS => ?_)
  obtain ⟨hP1, hD1⟩ := hB_4
  rw [ht] at hP1
  obtain ⟨hP, hD⟩ := va_join (wr := [(h 0, .inr (12, [.ref (h 1), .ref (h 2), .ref (h 3), .ref (h 4), .ref (h 5), .ref (h 6), .ref (h 8), .ref (h 12), .ref (h 11), .int hu, .int 0, .int (-1), .long 0, .long 0]))]) (w1 := [(h 1, .inr (0, [.int 0, .ref e0, .int 0]))]) hP hD [1] [0] rfl rfl (by decide) (by decide) hk1 hFc hP1 hD1
  have hP : va_P (dC, dI) vwCl [(h 0, .inr (12, [.ref (h 1), .ref (h 2), .ref (h 3), .ref (h 4), .ref (h 5), .ref (h 6), .ref (h 8), .ref (h 12), .ref (h 11), .int hu, .int 0, .int (-1), .long 0, .long 0])), (h 1, .inr (0, [.int 0, .ref e0, .int 0]))] H := hP
  have hD : va_D A [(h 0, .inr (12, [.ref (h 1), .ref (h 2), .ref (h 3), .ref (h 4), .ref (h 5), .ref (h 6), .ref (h 8), .ref (h 12), .ref (h 11), .int hu, .int 0, .int (-1), .long 0, .long 0])), (h 1, .inr (0, [.int 0, .ref e0, .int 0]))] := hD
  subst hw_3
  refine lv_icmp_ge (tgt := 84) hx hb dX11_moveLogs_12 (by decide) (fun c_5 => ?_) (fun c_5 => ?_)
  rotate_left
  · exact absurd c_5 (by decide)
  refine W.widen (k := 0) (n := 0) (Nat.le_of_ble_eq_true rfl) (Nat.le_of_ble_eq_true rfl) ?_
  have hP9 := hP.sub (ws' := [(h 0, .inr (12, [.ref (h 1), .ref (h 2), .ref (h 3), .ref (h 4), .ref (h 5), .ref (h 6), .ref (h 8), .ref (h 12), .ref (h 11), .int hu, .int 0, .int (-1), .long 0, .long 0])), (h 1, .inr (0, [.int 0, .ref e0, .int 0]))]) [0, 1] rfl
  have hD9 := hD.sub (ws' := [(h 0, .inr (12, [.ref (h 1), .ref (h 2), .ref (h 3), .ref (h 4), .ref (h 5), .ref (h 6), .ref (h 8), .ref (h 12), .ref (h 11), .int hu, .int 0, .int (-1), .long 0, .long 0])), (h 1, .inr (0, [.int 0, .ref e0, .int 0]))]) [0, 1] (by decide) rfl
  exact W.vret hx hb hr (fun t ht hW => ⟨⟨(), rfl, trivial, ⟨(by rw [ht]; exact hP9), hD9⟩⟩, hS.F ht⟩) hS.2.2 dX11_moveLogs_84
set_option maxHeartbeats 8000000 in
set_option maxRecDepth 100000 in
/-- jamCells: nothing is there -/
theorem c_X11_jamCells (l : Launch) (hlt : l.stackTraces = false) (e0 : Nat) (dC : Nat → ClassId) (dI : Nat → Nat → Nat) (sz : Nat) (h : Nat → Nat) (hu : Int32) : Met l yX11_jamCells wsX11_jamCells ({ frames := 1, cells := 0, slots := 0, locals := 20 }) (va_Pc [.ref (h 0)] (pz_P e0 (dC, dI) [] [(h 0, .inr (12, [.ref (h 1), .ref (h 2), .ref (h 3), .ref (h 4), .ref (h 5), .ref (h 6), .ref (h 8), .ref (h 12), .ref (h 11), .int hu, .int 0, .int (-1), .long 0, .long 0])), (h 1, .inr (0, [.int 0, .ref e0, .int 0]))] sz)) (va_Qv (S := Unit) (fun _ : Unit => True) (fun u t => va_P (dC, dI) vwCl [(h 0, .inr (12, [.ref (h 1), .ref (h 2), .ref (h 3), .ref (h 4), .ref (h 5), .ref (h 6), .ref (h 8), .ref (h 12), .ref (h 11), .int hu, .int 0, .int (-1), .long 0, .long 0])), (h 1, .inr (0, [.int 0, .ref e0, .int 0]))] t.heap ∧ va_D (va_A [(h 0, .inr (12, [.ref (h 1), .ref (h 2), .ref (h 3), .ref (h 4), .ref (h 5), .ref (h 6), .ref (h 8), .ref (h 12), .ref (h 11), .int hu, .int 0, .int (-1), .long 0, .long 0])), (h 1, .inr (0, [.int 0, .ref e0, .int 0]))] sz) [(h 0, .inr (12, [.ref (h 1), .ref (h 2), .ref (h 3), .ref (h 4), .ref (h 5), .ref (h 6), .ref (h 8), .ref (h 12), .ref (h 11), .int hu, .int 0, .int (-1), .long 0, .long 0])), (h 1, .inr (0, [.int 0, .ref e0, .int 0]))]) (va_A [(h 0, .inr (12, [.ref (h 1), .ref (h 2), .ref (h 3), .ref (h 4), .ref (h 5), .ref (h 6), .ref (h 8), .ref (h 12), .ref (h 11), .int hu, .int 0, .int (-1), .long 0, .long 0])), (h 1, .inr (0, [.int 0, .ref e0, .int 0]))] sz)) 0 0 (va_A [(h 0, .inr (12, [.ref (h 1), .ref (h 2), .ref (h 3), .ref (h 4), .ref (h 5), .ref (h 6), .ref (h 8), .ref (h 12), .ref (h 11), .int hu, .int 0, .int (-1), .long 0, .long 0])), (h 1, .inr (0, [.int 0, .ref e0, .int 0]))] sz) := by
  refine Met.ofW (cc := cX11_jamCells) (maxL := 3) (ret := none) (by decide) rfl ?_
  intro p e s m args below meth c s₁ B hml hv
  obtain ⟨rfl, hsz, hP, hK, hD0, hZ, hV, hT⟩ := hv
  have hx := B.exec
  have hb := B.bytes
  have hr := B.returns
  have hts := atoms_spec (ws := wsX11_jamCells) B.pre
  have hown : s.vm.findClass RX11 = some m.cls := findClass_of_methodNamed B.named
  have hlocks := B.notSynchronized
  have hinX11 : ∀ w ∈ wsX110, w ∈ wsX11_jamCells := fun w h => by unfold wsX11_jamCells; simp only [List.mem_cons, List.mem_append, h, or_true, true_or]
  subst hsz
  have hD := hD0.self (sz := s.heap.size)
  generalize hAe : va_A [(h 0, .inr (12, [.ref (h 1), .ref (h 2), .ref (h 3), .ref (h 4), .ref (h 5), .ref (h 6), .ref (h 8), .ref (h 12), .ref (h 11), .int hu, .int 0, .int (-1), .long 0, .long 0])), (h 1, .inr (0, [.int 0, .ref e0, .int 0]))] s.heap.size = A at hD hZ hT ⊢
  have hA : ∀ q : Nat, s.heap.size ≤ q → A q := fun q h => by rw [← hAe]; exact Or.inr h
  have hS : va_S A s.heap s.heap [] := va_S.rf
  have hP : va_P (dC, dI) vwCl [(h 0, .inr (12, [.ref (h 1), .ref (h 2), .ref (h 3), .ref (h 4), .ref (h 5), .ref (h 6), .ref (h 8), .ref (h 12), .ref (h 11), .int hu, .int 0, .int (-1), .long 0, .long 0])), (h 1, .inr (0, [.int 0, .ref e0, .int 0]))] s.heap := hP
  have hl := lv_entry ([.ref (h 0)]) (n := 3) (Nat.le_of_ble_eq_true rfl)
  rw [lg_entry_eq]
  generalize (lg_sl ([.ref (h 0)]) ++ List.replicate (3 - (lg_sl ([.ref (h 0)])).length) Slot.unset).toArray = ls at hl ⊢
  have hl : lv_has ls 3 [(0, .ref (h 0))] := hl
  refine lv_iconst (v := 0) hx hb dX11_jamCells_0 (by decide) ?_
  refine lv_istore_n (lv' := [(1, .int 0), (0, .ref (h 0))]) hx hb dX11_jamCells_1 rfl hl (by decide) rfl (fun ls hl => ?_)
  refine lv_iload_n hx hb dX11_jamCells_2 rfl (lv_at hl 0 rfl) ?_
  refine lv_aload_n hx hb dX11_jamCells_3 rfl (lv_at hl 1 rfl) ?_
  refine va_get (D := (dC, dI)) (ci := 12) (v := .ref (h 1)) (C := RX11) (T := TX11) (N := 14) hx hb hts hinX11 hown hK hP 0 rfl rfl 0 (by decide) (hts (.fieldLink RX11 10 "LogRiver" "reaches" "Ljava/util/List;") (by decide +kernel)) (fun _ h9 => h9) rfl dX11_jamCells_4 ?_
  have hPc := hP.sub (ws' := [(h 1, .inr (0, [.int 0, .ref e0, .int 0]))]) [1] rfl
  have hDc := hD.sub (ws' := [(h 1, .inr (0, [.int 0, .ref e0, .int 0]))]) [1] (by decide) rfl
  have hKc := hK.sub (tys' := []) [] rfl
  have hFc := va_free (wc := [(h 1, .inr (0, [.int 0, .ref e0, .int 0]))]) hD hS hA [1] rfl
  refine va_callFi (va_runF (As := []) (rest := [.int 0]) (hK.1 0 _ rfl).2 ⟨hx, hb, hml, hown, hts⟩ (c_Jx4a65c_size_8abf5 l hlt e0 dC dI s.heap.size (h 1) 0 (.ref e0) 0) (va_cwF 0 hts gX11_jamCells_Jx4a65c_size_8abf5_f59Jx4a65c rfl rfl rfl hV.2.1 (by decide +kernel) ⟨Nat.le_of_ble_eq_true rfl, Nat.le_of_ble_eq_true rfl⟩) (pz_preV [] hPc hDc hKc hZ hV hT hS hFc (va_recv hKc hPc (ci := 0) (q0 := 0) rfl rfl)) rfl rfl hl.1 rfl (lv_room (Nat.le_of_ble_eq_true rfl)) dX11_jamCells_7 ⟨Nat.le_of_ble_eq_true rfl, Nat.le_of_ble_eq_true rfl⟩) hS (fun q _ h => hFc q h) hFc (fun r_1 u_2 t H locs ht hvm hw_3 hB_4 hz1 hk1 hS => ?_)
  obtain ⟨hP1, hD1⟩ := hB_4
  rw [ht] at hP1
  obtain ⟨hP, hD⟩ := va_join (wr := [(h 0, .inr (12, [.ref (h 1), .ref (h 2), .ref (h 3), .ref (h 4), .ref (h 5), .ref (h 6), .ref (h 8), .ref (h 12), .ref (h 11), .int hu, .int 0, .int (-1), .long 0, .long 0]))]) (w1 := [(h 1, .inr (0, [.int 0, .ref e0, .int 0]))]) hP hD [1] [0] rfl rfl (by decide) (by decide) hk1 hFc hP1 hD1
  have hP : va_P (dC, dI) vwCl [(h 0, .inr (12, [.ref (h 1), .ref (h 2), .ref (h 3), .ref (h 4), .ref (h 5), .ref (h 6), .ref (h 8), .ref (h 12), .ref (h 11), .int hu, .int 0, .int (-1), .long 0, .long 0])), (h 1, .inr (0, [.int 0, .ref e0, .int 0]))] H := hP
  have hD : va_D A [(h 0, .inr (12, [.ref (h 1), .ref (h 2), .ref (h 3), .ref (h 4), .ref (h 5), .ref (h 6), .ref (h 8), .ref (h 12), .ref (h 11), .int hu, .int 0, .int (-1), .long 0, .long 0])), (h 1, .inr (0, [.int 0, .ref e0, .int 0]))] := hD
  subst hw_3
  refine lv_icmp_ge (tgt := 50) hx hb dX11_jamCells_12 (by decide) (fun c_5 => ?_) (fun c_5 => ?_)
  rotate_left
  · exact absurd c_5 (by decide)
  refine W.widen (k := 0) (n := 0) (Nat.le_of_ble_eq_true rfl) (Nat.le_of_ble_eq_true rfl) ?_
  have hP9 := hP.sub (ws' := [(h 0, .inr (12, [.ref (h 1), .ref (h 2), .ref (h 3), .ref (h 4), .ref (h 5), .ref (h 6), .ref (h 8), .ref (h 12), .ref (h 11), .int hu, .int 0, .int (-1), .long 0, .long 0])), (h 1, .inr (0, [.int 0, .ref e0, .int 0]))]) [0, 1] rfl
  have hD9 := hD.sub (ws' := [(h 0, .inr (12, [.ref (h 1), .ref (h 2), .ref (h 3), .ref (h 4), .ref (h 5), .ref (h 6), .ref (h 8), .ref (h 12), .ref (h 11), .int hu, .int 0, .int (-1), .long 0, .long 0])), (h 1, .inr (0, [.int 0, .ref e0, .int 0]))]) [0, 1] (by decide) rfl
  exact W.vret hx hb hr (fun t ht hW => ⟨⟨(), rfl, trivial, ⟨(by rw [ht]; exact hP9), hD9⟩⟩, hS.F ht⟩) hS.2.2 dX11_jamCells_50
set_option maxHeartbeats 8000000 in
set_option maxRecDepth 100000 in
/-- freeJams: nothing is there -/
theorem c_X11_freeJams (l : Launch) (hlt : l.stackTraces = false) (e0 : Nat) (dC : Nat → ClassId) (dI : Nat → Nat → Nat) (sz : Nat) (h : Nat → Nat) (hu : Int32) : Met l yX11_freeJams wsX11_freeJams ({ frames := 1, cells := 0, slots := 0, locals := 20 }) (va_Pc [.ref (h 0)] (pz_P e0 (dC, dI) [] [(h 0, .inr (12, [.ref (h 1), .ref (h 2), .ref (h 3), .ref (h 4), .ref (h 5), .ref (h 6), .ref (h 8), .ref (h 12), .ref (h 11), .int hu, .int 0, .int (-1), .long 0, .long 0])), (h 4, .inr (0, [.int 0, .ref e0, .int 0]))] sz)) (va_Qv (S := Unit) (fun _ : Unit => True) (fun u t => va_P (dC, dI) vwCl [(h 0, .inr (12, [.ref (h 1), .ref (h 2), .ref (h 3), .ref (h 4), .ref (h 5), .ref (h 6), .ref (h 8), .ref (h 12), .ref (h 11), .int hu, .int 0, .int (-1), .long 0, .long 0])), (h 4, .inr (0, [.int 0, .ref e0, .int 0]))] t.heap ∧ va_D (va_A [(h 0, .inr (12, [.ref (h 1), .ref (h 2), .ref (h 3), .ref (h 4), .ref (h 5), .ref (h 6), .ref (h 8), .ref (h 12), .ref (h 11), .int hu, .int 0, .int (-1), .long 0, .long 0])), (h 4, .inr (0, [.int 0, .ref e0, .int 0]))] sz) [(h 0, .inr (12, [.ref (h 1), .ref (h 2), .ref (h 3), .ref (h 4), .ref (h 5), .ref (h 6), .ref (h 8), .ref (h 12), .ref (h 11), .int hu, .int 0, .int (-1), .long 0, .long 0])), (h 4, .inr (0, [.int 0, .ref e0, .int 0]))]) (va_A [(h 0, .inr (12, [.ref (h 1), .ref (h 2), .ref (h 3), .ref (h 4), .ref (h 5), .ref (h 6), .ref (h 8), .ref (h 12), .ref (h 11), .int hu, .int 0, .int (-1), .long 0, .long 0])), (h 4, .inr (0, [.int 0, .ref e0, .int 0]))] sz)) 0 0 (va_A [(h 0, .inr (12, [.ref (h 1), .ref (h 2), .ref (h 3), .ref (h 4), .ref (h 5), .ref (h 6), .ref (h 8), .ref (h 12), .ref (h 11), .int hu, .int 0, .int (-1), .long 0, .long 0])), (h 4, .inr (0, [.int 0, .ref e0, .int 0]))] sz) := by
  refine Met.ofW (cc := cX11_freeJams) (maxL := 3) (ret := none) (by decide) rfl ?_
  intro p e s m args below meth c s₁ B hml hv
  obtain ⟨rfl, hsz, hP, hK, hD0, hZ, hV, hT⟩ := hv
  have hx := B.exec
  have hb := B.bytes
  have hr := B.returns
  have hts := atoms_spec (ws := wsX11_freeJams) B.pre
  have hown : s.vm.findClass RX11 = some m.cls := findClass_of_methodNamed B.named
  have hlocks := B.notSynchronized
  have hinX11 : ∀ w ∈ wsX110, w ∈ wsX11_freeJams := fun w h => by unfold wsX11_freeJams; simp only [List.mem_cons, List.mem_append, h, or_true, true_or]
  subst hsz
  have hD := hD0.self (sz := s.heap.size)
  generalize hAe : va_A [(h 0, .inr (12, [.ref (h 1), .ref (h 2), .ref (h 3), .ref (h 4), .ref (h 5), .ref (h 6), .ref (h 8), .ref (h 12), .ref (h 11), .int hu, .int 0, .int (-1), .long 0, .long 0])), (h 4, .inr (0, [.int 0, .ref e0, .int 0]))] s.heap.size = A at hD hZ hT ⊢
  have hA : ∀ q : Nat, s.heap.size ≤ q → A q := fun q h => by rw [← hAe]; exact Or.inr h
  have hS : va_S A s.heap s.heap [] := va_S.rf
  have hP : va_P (dC, dI) vwCl [(h 0, .inr (12, [.ref (h 1), .ref (h 2), .ref (h 3), .ref (h 4), .ref (h 5), .ref (h 6), .ref (h 8), .ref (h 12), .ref (h 11), .int hu, .int 0, .int (-1), .long 0, .long 0])), (h 4, .inr (0, [.int 0, .ref e0, .int 0]))] s.heap := hP
  have hl := lv_entry ([.ref (h 0)]) (n := 3) (Nat.le_of_ble_eq_true rfl)
  rw [lg_entry_eq]
  generalize (lg_sl ([.ref (h 0)]) ++ List.replicate (3 - (lg_sl ([.ref (h 0)])).length) Slot.unset).toArray = ls at hl ⊢
  have hl : lv_has ls 3 [(0, .ref (h 0))] := hl
  refine lv_iconst (v := 0) hx hb dX11_freeJams_0 (by decide) ?_
  refine lv_istore_n (lv' := [(1, .int 0), (0, .ref (h 0))]) hx hb dX11_freeJams_1 rfl hl (by decide) rfl (fun ls hl => ?_)
  refine lv_iload_n hx hb dX11_freeJams_2 rfl (lv_at hl 0 rfl) ?_
  refine lv_aload_n hx hb dX11_freeJams_3 rfl (lv_at hl 1 rfl) ?_
  refine va_get (D := (dC, dI)) (ci := 12) (v := .ref (h 4)) (C := RX11) (T := TX11) (N := 14) hx hb hts hinX11 hown hK hP 0 rfl rfl 3 (by decide) (hts (.fieldLink RX11 22 "LogRiver" "crews" "Ljava/util/List;") (by decide +kernel)) (fun _ h9 => h9) rfl dX11_freeJams_4 ?_
  have hPc := hP.sub (ws' := [(h 4, .inr (0, [.int 0, .ref e0, .int 0]))]) [1] rfl
  have hDc := hD.sub (ws' := [(h 4, .inr (0, [.int 0, .ref e0, .int 0]))]) [1] (by decide) rfl
  have hKc := hK.sub (tys' := []) [] rfl
  have hFc := va_free (wc := [(h 4, .inr (0, [.int 0, .ref e0, .int 0]))]) hD hS hA [1] rfl
  refine va_callFi (va_runF (As := []) (rest := [.int 0]) (hK.1 0 _ rfl).2 ⟨hx, hb, hml, hown, hts⟩ (c_Jx4a65c_size_8abf5 l hlt e0 dC dI s.heap.size (h 4) 0 (.ref e0) 0) (va_cwF 0 hts gX11_freeJams_Jx4a65c_size_8abf5_f59Jx4a65c rfl rfl rfl hV.2.1 (by decide +kernel) ⟨Nat.le_of_ble_eq_true rfl, Nat.le_of_ble_eq_true rfl⟩) (pz_preV [] hPc hDc hKc hZ hV hT hS hFc (va_recv hKc hPc (ci := 0) (q0 := 0) rfl rfl)) rfl rfl hl.1 rfl (lv_room (Nat.le_of_ble_eq_true rfl)) dX11_freeJams_7 ⟨Nat.le_of_ble_eq_true rfl, Nat.le_of_ble_eq_true rfl⟩) hS (fun q _ h => hFc q h) hFc (fun r_1 u_2 t H locs ht hvm hw_3 hB_4 hz1 hk1 hS => ?_)
  obtain ⟨hP1, hD1⟩ := hB_4
  rw [ht] at hP1
  obtain ⟨hP, hD⟩ := va_join (wr := [(h 0, .inr (12, [.ref (h 1), .ref (h 2), .ref (h 3), .ref (h 4), .ref (h 5), .ref (h 6), .ref (h 8), .ref (h 12), .ref (h 11), .int hu, .int 0, .int (-1), .long 0, .long 0]))]) (w1 := [(h 4, .inr (0, [.int 0, .ref e0, .int 0]))]) hP hD [1] [0] rfl rfl (by decide) (by decide) hk1 hFc hP1 hD1
  have hP : va_P (dC, dI) vwCl [(h 0, .inr (12, [.ref (h 1), .ref (h 2), .ref (h 3), .ref (h 4), .ref (h 5), .ref (h 6), .ref (h 8), .ref (h 12), .ref (h 11), .int hu, .int 0, .int (-1), .long 0, .long 0])), (h 4, .inr (0, [.int 0, .ref e0, .int 0]))] H := hP
  have hD : va_D A [(h 0, .inr (12, [.ref (h 1), .ref (h 2), .ref (h 3), .ref (h 4), .ref (h 5), .ref (h 6), .ref (h 8), .ref (h 12), .ref (h 11), .int hu, .int 0, .int (-1), .long 0, .long 0])), (h 4, .inr (0, [.int 0, .ref e0, .int 0]))] := hD
  subst hw_3
  refine lv_icmp_ge (tgt := 64) hx hb dX11_freeJams_12 (by decide) (fun c_5 => ?_) (fun c_5 => ?_)
  rotate_left
  · exact absurd c_5 (by decide)
  refine W.widen (k := 0) (n := 0) (Nat.le_of_ble_eq_true rfl) (Nat.le_of_ble_eq_true rfl) ?_
  have hP9 := hP.sub (ws' := [(h 0, .inr (12, [.ref (h 1), .ref (h 2), .ref (h 3), .ref (h 4), .ref (h 5), .ref (h 6), .ref (h 8), .ref (h 12), .ref (h 11), .int hu, .int 0, .int (-1), .long 0, .long 0])), (h 4, .inr (0, [.int 0, .ref e0, .int 0]))]) [0, 1] rfl
  have hD9 := hD.sub (ws' := [(h 0, .inr (12, [.ref (h 1), .ref (h 2), .ref (h 3), .ref (h 4), .ref (h 5), .ref (h 6), .ref (h 8), .ref (h 12), .ref (h 11), .int hu, .int 0, .int (-1), .long 0, .long 0])), (h 4, .inr (0, [.int 0, .ref e0, .int 0]))]) [0, 1] (by decide) rfl
  exact W.vret hx hb hr (fun t ht hW => ⟨⟨(), rfl, trivial, ⟨(by rw [ht]; exact hP9), hD9⟩⟩, hS.F ht⟩) hS.2.2 dX11_freeJams_64
set_option maxHeartbeats 8000000 in
set_option maxRecDepth 100000 in
/-- makeJamsKnown: nothing is there -/
theorem c_X11_makeJamsKnown (l : Launch) (hlt : l.stackTraces = false) (e0 : Nat) (dC : Nat → ClassId) (dI : Nat → Nat → Nat) (sz : Nat) (h : Nat → Nat) (hu : Int32) : Met l yX11_makeJamsKnown wsX11_makeJamsKnown ({ frames := 1, cells := 0, slots := 0, locals := 20 }) (va_Pc [.ref (h 0)] (pz_P e0 (dC, dI) [] [(h 0, .inr (12, [.ref (h 1), .ref (h 2), .ref (h 3), .ref (h 4), .ref (h 5), .ref (h 6), .ref (h 8), .ref (h 12), .ref (h 11), .int hu, .int 0, .int (-1), .long 0, .long 0])), (h 1, .inr (0, [.int 0, .ref e0, .int 0])), (h 4, .inr (0, [.int 0, .ref e0, .int 0]))] sz)) (va_Qv (S := Unit) (fun _ : Unit => True) (fun u t => va_P (dC, dI) vwCl [(h 0, .inr (12, [.ref (h 1), .ref (h 2), .ref (h 3), .ref (h 4), .ref (h 5), .ref (h 6), .ref (h 8), .ref (h 12), .ref (h 11), .int hu, .int 0, .int (-1), .long 0, .long 0])), (h 1, .inr (0, [.int 0, .ref e0, .int 0])), (h 4, .inr (0, [.int 0, .ref e0, .int 0]))] t.heap ∧ va_D (va_A [(h 0, .inr (12, [.ref (h 1), .ref (h 2), .ref (h 3), .ref (h 4), .ref (h 5), .ref (h 6), .ref (h 8), .ref (h 12), .ref (h 11), .int hu, .int 0, .int (-1), .long 0, .long 0])), (h 1, .inr (0, [.int 0, .ref e0, .int 0])), (h 4, .inr (0, [.int 0, .ref e0, .int 0]))] sz) [(h 0, .inr (12, [.ref (h 1), .ref (h 2), .ref (h 3), .ref (h 4), .ref (h 5), .ref (h 6), .ref (h 8), .ref (h 12), .ref (h 11), .int hu, .int 0, .int (-1), .long 0, .long 0])), (h 1, .inr (0, [.int 0, .ref e0, .int 0])), (h 4, .inr (0, [.int 0, .ref e0, .int 0]))]) (va_A [(h 0, .inr (12, [.ref (h 1), .ref (h 2), .ref (h 3), .ref (h 4), .ref (h 5), .ref (h 6), .ref (h 8), .ref (h 12), .ref (h 11), .int hu, .int 0, .int (-1), .long 0, .long 0])), (h 1, .inr (0, [.int 0, .ref e0, .int 0])), (h 4, .inr (0, [.int 0, .ref e0, .int 0]))] sz)) 0 0 (va_A [(h 0, .inr (12, [.ref (h 1), .ref (h 2), .ref (h 3), .ref (h 4), .ref (h 5), .ref (h 6), .ref (h 8), .ref (h 12), .ref (h 11), .int hu, .int 0, .int (-1), .long 0, .long 0])), (h 1, .inr (0, [.int 0, .ref e0, .int 0])), (h 4, .inr (0, [.int 0, .ref e0, .int 0]))] sz) := by
  refine Met.ofW (cc := cX11_makeJamsKnown) (maxL := 2) (ret := none) (by decide) rfl ?_
  intro p e s m args below meth c s₁ B hml hv
  obtain ⟨rfl, hsz, hP, hK, hD0, hZ, hV, hT⟩ := hv
  have hx := B.exec
  have hb := B.bytes
  have hr := B.returns
  have hts := atoms_spec (ws := wsX11_makeJamsKnown) B.pre
  have hown : s.vm.findClass RX11 = some m.cls := findClass_of_methodNamed B.named
  have hlocks := B.notSynchronized
  have hinX11 : ∀ w ∈ wsX110, w ∈ wsX11_makeJamsKnown := fun w h => by unfold wsX11_makeJamsKnown; simp only [List.mem_cons, List.mem_append, h, or_true, true_or]
  subst hsz
  have hD := hD0.self (sz := s.heap.size)
  generalize hAe : va_A [(h 0, .inr (12, [.ref (h 1), .ref (h 2), .ref (h 3), .ref (h 4), .ref (h 5), .ref (h 6), .ref (h 8), .ref (h 12), .ref (h 11), .int hu, .int 0, .int (-1), .long 0, .long 0])), (h 1, .inr (0, [.int 0, .ref e0, .int 0])), (h 4, .inr (0, [.int 0, .ref e0, .int 0]))] s.heap.size = A at hD hZ hT ⊢
  have hA : ∀ q : Nat, s.heap.size ≤ q → A q := fun q h => by rw [← hAe]; exact Or.inr h
  have hS : va_S A s.heap s.heap [] := va_S.rf
  have hP : va_P (dC, dI) vwCl [(h 0, .inr (12, [.ref (h 1), .ref (h 2), .ref (h 3), .ref (h 4), .ref (h 5), .ref (h 6), .ref (h 8), .ref (h 12), .ref (h 11), .int hu, .int 0, .int (-1), .long 0, .long 0])), (h 1, .inr (0, [.int 0, .ref e0, .int 0])), (h 4, .inr (0, [.int 0, .ref e0, .int 0]))] s.heap := hP
  have hl := lv_entry ([.ref (h 0)]) (n := 2) (Nat.le_of_ble_eq_true rfl)
  rw [lg_entry_eq]
  generalize (lg_sl ([.ref (h 0)]) ++ List.replicate (2 - (lg_sl ([.ref (h 0)])).length) Slot.unset).toArray = ls at hl ⊢
  have hl : lv_has ls 2 [(0, .ref (h 0))] := hl
  refine lv_iconst (v := 0) hx hb dX11_makeJamsKnown_0 (by decide) ?_
  refine lv_istore_n (lv' := [(1, .int 0), (0, .ref (h 0))]) hx hb dX11_makeJamsKnown_1 rfl hl (by decide) rfl (fun ls hl => ?_)
  refine lv_iload_n hx hb dX11_makeJamsKnown_2 rfl (lv_at hl 0 rfl) ?_
  refine lv_aload_n hx hb dX11_makeJamsKnown_3 rfl (lv_at hl 1 rfl) ?_
  refine va_get (D := (dC, dI)) (ci := 12) (v := .ref (h 1)) (C := RX11) (T := TX11) (N := 14) hx hb hts hinX11 hown hK hP 0 rfl rfl 0 (by decide) (hts (.fieldLink RX11 10 "LogRiver" "reaches" "Ljava/util/List;") (by decide +kernel)) (fun _ h9 => h9) rfl dX11_makeJamsKnown_4 ?_
  have hPc := hP.sub (ws' := [(h 1, .inr (0, [.int 0, .ref e0, .int 0]))]) [1] rfl
  have hDc := hD.sub (ws' := [(h 1, .inr (0, [.int 0, .ref e0, .int 0]))]) [1] (by decide) rfl
  have hKc := hK.sub (tys' := []) [] rfl
  have hFc := va_free (wc := [(h 1, .inr (0, [.int 0, .ref e0, .int 0]))]) hD hS hA [1] rfl
  refine va_callFi (va_runF (As := []) (rest := [.int 0]) (hK.1 0 _ rfl).2 ⟨hx, hb, hml, hown, hts⟩ (c_Jx4a65c_size_8abf5 l hlt e0 dC dI s.heap.size (h 1) 0 (.ref e0) 0) (va_cwF 0 hts gX11_makeJamsKnown_Jx4a65c_size_8abf5_f59Jx4a65c rfl rfl rfl hV.2.1 (by decide +kernel) ⟨Nat.le_of_ble_eq_true rfl, Nat.le_of_ble_eq_true rfl⟩) (pz_preV [] hPc hDc hKc hZ hV hT hS hFc (va_recv hKc hPc (ci := 0) (q0 := 0) rfl rfl)) rfl rfl hl.1 rfl (lv_room (Nat.le_of_ble_eq_true rfl)) dX11_makeJamsKnown_7 ⟨Nat.le_of_ble_eq_true rfl, Nat.le_of_ble_eq_true rfl⟩) hS (fun q _ h => hFc q h) hFc (fun r_1 u_2 t H locs ht hvm hw_3 hB_4 hz1 hk1 hS => ?_)
  obtain ⟨hP1, hD1⟩ := hB_4
  rw [ht] at hP1
  obtain ⟨hP, hD⟩ := va_join (wr := [(h 0, .inr (12, [.ref (h 1), .ref (h 2), .ref (h 3), .ref (h 4), .ref (h 5), .ref (h 6), .ref (h 8), .ref (h 12), .ref (h 11), .int hu, .int 0, .int (-1), .long 0, .long 0])), (h 4, .inr (0, [.int 0, .ref e0, .int 0]))]) (w1 := [(h 1, .inr (0, [.int 0, .ref e0, .int 0]))]) hP hD [1] [0, 2] rfl rfl (by decide) (by decide) hk1 hFc hP1 hD1
  have hP : va_P (dC, dI) vwCl [(h 0, .inr (12, [.ref (h 1), .ref (h 2), .ref (h 3), .ref (h 4), .ref (h 5), .ref (h 6), .ref (h 8), .ref (h 12), .ref (h 11), .int hu, .int 0, .int (-1), .long 0, .long 0])), (h 4, .inr (0, [.int 0, .ref e0, .int 0])), (h 1, .inr (0, [.int 0, .ref e0, .int 0]))] H := hP
  have hD : va_D A [(h 0, .inr (12, [.ref (h 1), .ref (h 2), .ref (h 3), .ref (h 4), .ref (h 5), .ref (h 6), .ref (h 8), .ref (h 12), .ref (h 11), .int hu, .int 0, .int (-1), .long 0, .long 0])), (h 4, .inr (0, [.int 0, .ref e0, .int 0])), (h 1, .inr (0, [.int 0, .ref e0, .int 0]))] := hD
  subst hw_3
  refine lv_icmp_ge (tgt := 56) hx hb dX11_makeJamsKnown_12 (by decide) (fun c_5 => ?_) (fun c_5 => ?_)
  rotate_left
  · exact absurd c_5 (by decide)
  refine lv_iconst (v := 0) hx hb dX11_makeJamsKnown_56 (by decide) ?_
  refine lv_istore_n (lv' := [(1, .int 0), (0, .ref (h 0))]) hx hb dX11_makeJamsKnown_57 rfl hl (by decide) rfl (fun ls hl => ?_)
  refine lv_iload_n hx hb dX11_makeJamsKnown_58 rfl (lv_at hl 0 rfl) ?_
  refine lv_aload_n hx hb dX11_makeJamsKnown_59 rfl (lv_at hl 1 rfl) ?_
  refine va_get (D := (dC, dI)) (ci := 12) (v := .ref (h 4)) (C := RX11) (T := TX11) (N := 14) hx hb hts hinX11 hown hK hP 0 rfl rfl 3 (by decide) (hts (.fieldLink RX11 22 "LogRiver" "crews" "Ljava/util/List;") (by decide +kernel)) (fun _ h9 => h9) rfl dX11_makeJamsKnown_60 ?_
  have hPc := hP.sub (ws' := [(h 4, .inr (0, [.int 0, .ref e0, .int 0]))]) [1] rfl
  have hDc := hD.sub (ws' := [(h 4, .inr (0, [.int 0, .ref e0, .int 0]))]) [1] (by decide) rfl
  have hKc := hK.sub (tys' := []) [] rfl
  have hFc := va_free (wc := [(h 4, .inr (0, [.int 0, .ref e0, .int 0]))]) hD hS hA [1] rfl
  refine va_callFi (va_runF (As := []) (rest := [.int 0]) (hK.1 0 _ rfl).2 ⟨hx, hb, hml, hown, hts⟩ (c_Jx4a65c_size_8abf5 l hlt e0 dC dI H.size (h 4) 0 (.ref e0) 0) (va_cwF 0 hts gX11_makeJamsKnown_Jx4a65c_size_8abf5_f59Jx4a65c rfl rfl rfl hV.2.1 (by decide +kernel) ⟨Nat.le_of_ble_eq_true rfl, Nat.le_of_ble_eq_true rfl⟩) (pz_preV [] hPc hDc hKc hZ hV hT hS hFc (va_recv hKc hPc (ci := 0) (q0 := 0) rfl rfl)) rfl rfl hl.1 rfl (lv_room (Nat.le_of_ble_eq_true rfl)) dX11_makeJamsKnown_63 ⟨Nat.le_of_ble_eq_true rfl, Nat.le_of_ble_eq_true rfl⟩) hS (fun q _ h => hFc q h) hFc (fun r_6 u_7 t H locs ht hvm hw_8 hB_9 hz1 hk1 hS => ?_)
  obtain ⟨hP1, hD1⟩ := hB_9
  rw [ht] at hP1
  obtain ⟨hP, hD⟩ := va_join (wr := [(h 0, .inr (12, [.ref (h 1), .ref (h 2), .ref (h 3), .ref (h 4), .ref (h 5), .ref (h 6), .ref (h 8), .ref (h 12), .ref (h 11), .int hu, .int 0, .int (-1), .long 0, .long 0])), (h 1, .inr (0, [.int 0, .ref e0, .int 0]))]) (w1 := [(h 4, .inr (0, [.int 0, .ref e0, .int 0]))]) hP hD [1] [0, 2] rfl rfl (by decide) (by decide) hk1 hFc hP1 hD1
  have hP : va_P (dC, dI) vwCl [(h 0, .inr (12, [.ref (h 1), .ref (h 2), .ref (h 3), .ref (h 4), .ref (h 5), .ref (h 6), .ref (h 8), .ref (h 12), .ref (h 11), .int hu, .int 0, .int (-1), .long 0, .long 0])), (h 1, .inr (0, [.int 0, .ref e0, .int 0])), (h 4, .inr (0, [.int 0, .ref e0, .int 0]))] H := hP
  have hD : va_D A [(h 0, .inr (12, [.ref (h 1), .ref (h 2), .ref (h 3), .ref (h 4), .ref (h 5), .ref (h 6), .ref (h 8), .ref (h 12), .ref (h 11), .int hu, .int 0, .int (-1), .long 0, .long 0])), (h 1, .inr (0, [.int 0, .ref e0, .int 0])), (h 4, .inr (0, [.int 0, .ref e0, .int 0]))] := hD
  subst hw_8
  refine lv_icmp_ge (tgt := 96) hx hb dX11_makeJamsKnown_68 (by decide) (fun c_10 => ?_) (fun c_10 => ?_)
  rotate_left
  · exact absurd c_10 (by decide)
  refine W.widen (k := 0) (n := 0) (Nat.le_of_ble_eq_true rfl) (Nat.le_of_ble_eq_true rfl) ?_
  have hP9 := hP.sub (ws' := [(h 0, .inr (12, [.ref (h 1), .ref (h 2), .ref (h 3), .ref (h 4), .ref (h 5), .ref (h 6), .ref (h 8), .ref (h 12), .ref (h 11), .int hu, .int 0, .int (-1), .long 0, .long 0])), (h 1, .inr (0, [.int 0, .ref e0, .int 0])), (h 4, .inr (0, [.int 0, .ref e0, .int 0]))]) [0, 1, 2] rfl
  have hD9 := hD.sub (ws' := [(h 0, .inr (12, [.ref (h 1), .ref (h 2), .ref (h 3), .ref (h 4), .ref (h 5), .ref (h 6), .ref (h 8), .ref (h 12), .ref (h 11), .int hu, .int 0, .int (-1), .long 0, .long 0])), (h 1, .inr (0, [.int 0, .ref e0, .int 0])), (h 4, .inr (0, [.int 0, .ref e0, .int 0]))]) [0, 1, 2] (by decide) rfl
  exact W.vret hx hb hr (fun t ht hW => ⟨⟨(), rfl, trivial, ⟨(by rw [ht]; exact hP9), hD9⟩⟩, hS.F ht⟩) hS.2.2 dX11_makeJamsKnown_96
set_option maxHeartbeats 8000000 in
set_option maxRecDepth 100000 in
/-- ageLogs: nothing is there -/
theorem c_X11_ageLogs (l : Launch) (hlt : l.stackTraces = false) (e0 : Nat) (dC : Nat → ClassId) (dI : Nat → Nat → Nat) (sz : Nat) (h : Nat → Nat) (hu : Int32) : Met l yX11_ageLogs wsX11_ageLogs ({ frames := 1, cells := 0, slots := 0, locals := 20 }) (va_Pc [.ref (h 0)] (pz_P e0 (dC, dI) [] [(h 0, .inr (12, [.ref (h 1), .ref (h 2), .ref (h 3), .ref (h 4), .ref (h 5), .ref (h 6), .ref (h 8), .ref (h 12), .ref (h 11), .int hu, .int 0, .int (-1), .long 0, .long 0])), (h 1, .inr (0, [.int 0, .ref e0, .int 0]))] sz)) (va_Qv (S := Unit) (fun _ : Unit => True) (fun u t => va_P (dC, dI) vwCl [(h 0, .inr (12, [.ref (h 1), .ref (h 2), .ref (h 3), .ref (h 4), .ref (h 5), .ref (h 6), .ref (h 8), .ref (h 12), .ref (h 11), .int hu, .int 0, .int (-1), .long 0, .long 0])), (h 1, .inr (0, [.int 0, .ref e0, .int 0]))] t.heap ∧ va_D (va_A [(h 0, .inr (12, [.ref (h 1), .ref (h 2), .ref (h 3), .ref (h 4), .ref (h 5), .ref (h 6), .ref (h 8), .ref (h 12), .ref (h 11), .int hu, .int 0, .int (-1), .long 0, .long 0])), (h 1, .inr (0, [.int 0, .ref e0, .int 0]))] sz) [(h 0, .inr (12, [.ref (h 1), .ref (h 2), .ref (h 3), .ref (h 4), .ref (h 5), .ref (h 6), .ref (h 8), .ref (h 12), .ref (h 11), .int hu, .int 0, .int (-1), .long 0, .long 0])), (h 1, .inr (0, [.int 0, .ref e0, .int 0]))]) (va_A [(h 0, .inr (12, [.ref (h 1), .ref (h 2), .ref (h 3), .ref (h 4), .ref (h 5), .ref (h 6), .ref (h 8), .ref (h 12), .ref (h 11), .int hu, .int 0, .int (-1), .long 0, .long 0])), (h 1, .inr (0, [.int 0, .ref e0, .int 0]))] sz)) 0 0 (va_A [(h 0, .inr (12, [.ref (h 1), .ref (h 2), .ref (h 3), .ref (h 4), .ref (h 5), .ref (h 6), .ref (h 8), .ref (h 12), .ref (h 11), .int hu, .int 0, .int (-1), .long 0, .long 0])), (h 1, .inr (0, [.int 0, .ref e0, .int 0]))] sz) := by
  refine Met.ofW (cc := cX11_ageLogs) (maxL := 4) (ret := none) (by decide) rfl ?_
  intro p e s m args below meth c s₁ B hml hv
  obtain ⟨rfl, hsz, hP, hK, hD0, hZ, hV, hT⟩ := hv
  have hx := B.exec
  have hb := B.bytes
  have hr := B.returns
  have hts := atoms_spec (ws := wsX11_ageLogs) B.pre
  have hown : s.vm.findClass RX11 = some m.cls := findClass_of_methodNamed B.named
  have hlocks := B.notSynchronized
  have hinX11 : ∀ w ∈ wsX110, w ∈ wsX11_ageLogs := fun w h => by unfold wsX11_ageLogs; simp only [List.mem_cons, List.mem_append, h, or_true, true_or]
  subst hsz
  have hD := hD0.self (sz := s.heap.size)
  generalize hAe : va_A [(h 0, .inr (12, [.ref (h 1), .ref (h 2), .ref (h 3), .ref (h 4), .ref (h 5), .ref (h 6), .ref (h 8), .ref (h 12), .ref (h 11), .int hu, .int 0, .int (-1), .long 0, .long 0])), (h 1, .inr (0, [.int 0, .ref e0, .int 0]))] s.heap.size = A at hD hZ hT ⊢
  have hA : ∀ q : Nat, s.heap.size ≤ q → A q := fun q h => by rw [← hAe]; exact Or.inr h
  have hS : va_S A s.heap s.heap [] := va_S.rf
  have hP : va_P (dC, dI) vwCl [(h 0, .inr (12, [.ref (h 1), .ref (h 2), .ref (h 3), .ref (h 4), .ref (h 5), .ref (h 6), .ref (h 8), .ref (h 12), .ref (h 11), .int hu, .int 0, .int (-1), .long 0, .long 0])), (h 1, .inr (0, [.int 0, .ref e0, .int 0]))] s.heap := hP
  have hl := lv_entry ([.ref (h 0)]) (n := 4) (Nat.le_of_ble_eq_true rfl)
  rw [lg_entry_eq]
  generalize (lg_sl ([.ref (h 0)]) ++ List.replicate (4 - (lg_sl ([.ref (h 0)])).length) Slot.unset).toArray = ls at hl ⊢
  have hl : lv_has ls 4 [(0, .ref (h 0))] := hl
  refine lv_iconst (v := 0) hx hb dX11_ageLogs_0 (by decide) ?_
  refine lv_istore_n (lv' := [(1, .int 0), (0, .ref (h 0))]) hx hb dX11_ageLogs_1 rfl hl (by decide) rfl (fun ls hl => ?_)
  refine lv_iload_n hx hb dX11_ageLogs_2 rfl (lv_at hl 0 rfl) ?_
  refine lv_aload_n hx hb dX11_ageLogs_3 rfl (lv_at hl 1 rfl) ?_
  refine va_get (D := (dC, dI)) (ci := 12) (v := .ref (h 1)) (C := RX11) (T := TX11) (N := 14) hx hb hts hinX11 hown hK hP 0 rfl rfl 0 (by decide) (hts (.fieldLink RX11 10 "LogRiver" "reaches" "Ljava/util/List;") (by decide +kernel)) (fun _ h9 => h9) rfl dX11_ageLogs_4 ?_
  have hPc := hP.sub (ws' := [(h 1, .inr (0, [.int 0, .ref e0, .int 0]))]) [1] rfl
  have hDc := hD.sub (ws' := [(h 1, .inr (0, [.int 0, .ref e0, .int 0]))]) [1] (by decide) rfl
  have hKc := hK.sub (tys' := []) [] rfl
  have hFc := va_free (wc := [(h 1, .inr (0, [.int 0, .ref e0, .int 0]))]) hD hS hA [1] rfl
  refine va_callFi (va_runF (As := []) (rest := [.int 0]) (hK.1 0 _ rfl).2 ⟨hx, hb, hml, hown, hts⟩ (c_Jx4a65c_size_8abf5 l hlt e0 dC dI s.heap.size (h 1) 0 (.ref e0) 0) (va_cwF 0 hts gX11_ageLogs_Jx4a65c_size_8abf5_f59Jx4a65c rfl rfl rfl hV.2.1 (by decide +kernel) ⟨Nat.le_of_ble_eq_true rfl, Nat.le_of_ble_eq_true rfl⟩) (pz_preV [] hPc hDc hKc hZ hV hT hS hFc (va_recv hKc hPc (ci := 0) (q0 := 0) rfl rfl)) rfl rfl hl.1 rfl (lv_room (Nat.le_of_ble_eq_true rfl)) dX11_ageLogs_7 ⟨Nat.le_of_ble_eq_true rfl, Nat.le_of_ble_eq_true rfl⟩) hS (fun q _ h => hFc q h) hFc (fun r_1 u_2 t H locs ht hvm hw_3 hB_4 hz1 hk1 hS => ?_)
  obtain ⟨hP1, hD1⟩ := hB_4
  rw [ht] at hP1
  obtain ⟨hP, hD⟩ := va_join (wr := [(h 0, .inr (12, [.ref (h 1), .ref (h 2), .ref (h 3), .ref (h 4), .ref (h 5), .ref (h 6), .ref (h 8), .ref (h 12), .ref (h 11), .int hu, .int 0, .int (-1), .long 0, .long 0]))]) (w1 := [(h 1, .inr (0, [.int 0, .ref e0, .int 0]))]) hP hD [1] [0] rfl rfl (by decide) (by decide) hk1 hFc hP1 hD1
  have hP : va_P (dC, dI) vwCl [(h 0, .inr (12, [.ref (h 1), .ref (h 2), .ref (h 3), .ref (h 4), .ref (h 5), .ref (h 6), .ref (h 8), .ref (h 12), .ref (h 11), .int hu, .int 0, .int (-1), .long 0, .long 0])), (h 1, .inr (0, [.int 0, .ref e0, .int 0]))] H := hP
  have hD : va_D A [(h 0, .inr (12, [.ref (h 1), .ref (h 2), .ref (h 3), .ref (h 4), .ref (h 5), .ref (h 6), .ref (h 8), .ref (h 12), .ref (h 11), .int hu, .int 0, .int (-1), .long 0, .long 0])), (h 1, .inr (0, [.int 0, .ref e0, .int 0]))] := hD
  subst hw_3
  refine lv_icmp_ge (tgt := 72) hx hb dX11_ageLogs_12 (by decide) (fun c_5 => ?_) (fun c_5 => ?_)
  rotate_left
  · exact absurd c_5 (by decide)
  refine W.widen (k := 0) (n := 0) (Nat.le_of_ble_eq_true rfl) (Nat.le_of_ble_eq_true rfl) ?_
  have hP9 := hP.sub (ws' := [(h 0, .inr (12, [.ref (h 1), .ref (h 2), .ref (h 3), .ref (h 4), .ref (h 5), .ref (h 6), .ref (h 8), .ref (h 12), .ref (h 11), .int hu, .int 0, .int (-1), .long 0, .long 0])), (h 1, .inr (0, [.int 0, .ref e0, .int 0]))]) [0, 1] rfl
  have hD9 := hD.sub (ws' := [(h 0, .inr (12, [.ref (h 1), .ref (h 2), .ref (h 3), .ref (h 4), .ref (h 5), .ref (h 6), .ref (h 8), .ref (h 12), .ref (h 11), .int hu, .int 0, .int (-1), .long 0, .long 0])), (h 1, .inr (0, [.int 0, .ref e0, .int 0]))]) [0, 1] (by decide) rfl
  exact W.vret hx hb hr (fun t ht hW => ⟨⟨(), rfl, trivial, ⟨(by rw [ht]; exact hP9), hD9⟩⟩, hS.F ht⟩) hS.2.2 dX11_ageLogs_72
set_option maxHeartbeats 8000000 in
set_option maxRecDepth 100000 in
/-- runMills: nothing is there -/
theorem c_X11_runMills (l : Launch) (hlt : l.stackTraces = false) (e0 : Nat) (dC : Nat → ClassId) (dI : Nat → Nat → Nat) (sz : Nat) (h : Nat → Nat) (hu : Int32) : Met l yX11_runMills wsX11_runMills ({ frames := 1, cells := 0, slots := 0, locals := 20 }) (va_Pc [.ref (h 0)] (pz_P e0 (dC, dI) [] [(h 0, .inr (12, [.ref (h 1), .ref (h 2), .ref (h 3), .ref (h 4), .ref (h 5), .ref (h 6), .ref (h 8), .ref (h 12), .ref (h 11), .int hu, .int 0, .int (-1), .long 0, .long 0])), (h 1, .inr (0, [.int 0, .ref e0, .int 0]))] sz)) (va_Qv (S := Unit) (fun _ : Unit => True) (fun u t => va_P (dC, dI) vwCl [(h 0, .inr (12, [.ref (h 1), .ref (h 2), .ref (h 3), .ref (h 4), .ref (h 5), .ref (h 6), .ref (h 8), .ref (h 12), .ref (h 11), .int hu, .int 0, .int (-1), .long 0, .long 0])), (h 1, .inr (0, [.int 0, .ref e0, .int 0]))] t.heap ∧ va_D (va_A [(h 0, .inr (12, [.ref (h 1), .ref (h 2), .ref (h 3), .ref (h 4), .ref (h 5), .ref (h 6), .ref (h 8), .ref (h 12), .ref (h 11), .int hu, .int 0, .int (-1), .long 0, .long 0])), (h 1, .inr (0, [.int 0, .ref e0, .int 0]))] sz) [(h 0, .inr (12, [.ref (h 1), .ref (h 2), .ref (h 3), .ref (h 4), .ref (h 5), .ref (h 6), .ref (h 8), .ref (h 12), .ref (h 11), .int hu, .int 0, .int (-1), .long 0, .long 0])), (h 1, .inr (0, [.int 0, .ref e0, .int 0]))]) (va_A [(h 0, .inr (12, [.ref (h 1), .ref (h 2), .ref (h 3), .ref (h 4), .ref (h 5), .ref (h 6), .ref (h 8), .ref (h 12), .ref (h 11), .int hu, .int 0, .int (-1), .long 0, .long 0])), (h 1, .inr (0, [.int 0, .ref e0, .int 0]))] sz)) 0 0 (va_A [(h 0, .inr (12, [.ref (h 1), .ref (h 2), .ref (h 3), .ref (h 4), .ref (h 5), .ref (h 6), .ref (h 8), .ref (h 12), .ref (h 11), .int hu, .int 0, .int (-1), .long 0, .long 0])), (h 1, .inr (0, [.int 0, .ref e0, .int 0]))] sz) := by
  refine Met.ofW (cc := cX11_runMills) (maxL := 5) (ret := none) (by decide) rfl ?_
  intro p e s m args below meth c s₁ B hml hv
  obtain ⟨rfl, hsz, hP, hK, hD0, hZ, hV, hT⟩ := hv
  have hx := B.exec
  have hb := B.bytes
  have hr := B.returns
  have hts := atoms_spec (ws := wsX11_runMills) B.pre
  have hown : s.vm.findClass RX11 = some m.cls := findClass_of_methodNamed B.named
  have hlocks := B.notSynchronized
  have hinX11 : ∀ w ∈ wsX110, w ∈ wsX11_runMills := fun w h => by unfold wsX11_runMills; simp only [List.mem_cons, List.mem_append, h, or_true, true_or]
  subst hsz
  have hD := hD0.self (sz := s.heap.size)
  generalize hAe : va_A [(h 0, .inr (12, [.ref (h 1), .ref (h 2), .ref (h 3), .ref (h 4), .ref (h 5), .ref (h 6), .ref (h 8), .ref (h 12), .ref (h 11), .int hu, .int 0, .int (-1), .long 0, .long 0])), (h 1, .inr (0, [.int 0, .ref e0, .int 0]))] s.heap.size = A at hD hZ hT ⊢
  have hA : ∀ q : Nat, s.heap.size ≤ q → A q := fun q h => by rw [← hAe]; exact Or.inr h
  have hS : va_S A s.heap s.heap [] := va_S.rf
  have hP : va_P (dC, dI) vwCl [(h 0, .inr (12, [.ref (h 1), .ref (h 2), .ref (h 3), .ref (h 4), .ref (h 5), .ref (h 6), .ref (h 8), .ref (h 12), .ref (h 11), .int hu, .int 0, .int (-1), .long 0, .long 0])), (h 1, .inr (0, [.int 0, .ref e0, .int 0]))] s.heap := hP
  have hl := lv_entry ([.ref (h 0)]) (n := 5) (Nat.le_of_ble_eq_true rfl)
  rw [lg_entry_eq]
  generalize (lg_sl ([.ref (h 0)]) ++ List.replicate (5 - (lg_sl ([.ref (h 0)])).length) Slot.unset).toArray = ls at hl ⊢
  have hl : lv_has ls 5 [(0, .ref (h 0))] := hl
  refine lv_iconst (v := 0) hx hb dX11_runMills_0 (by decide) ?_
  refine lv_istore_n (lv' := [(1, .int 0), (0, .ref (h 0))]) hx hb dX11_runMills_1 rfl hl (by decide) rfl (fun ls hl => ?_)
  refine lv_iload_n hx hb dX11_runMills_2 rfl (lv_at hl 0 rfl) ?_
  refine lv_aload_n hx hb dX11_runMills_3 rfl (lv_at hl 1 rfl) ?_
  refine va_get (D := (dC, dI)) (ci := 12) (v := .ref (h 1)) (C := RX11) (T := TX11) (N := 14) hx hb hts hinX11 hown hK hP 0 rfl rfl 0 (by decide) (hts (.fieldLink RX11 10 "LogRiver" "reaches" "Ljava/util/List;") (by decide +kernel)) (fun _ h9 => h9) rfl dX11_runMills_4 ?_
  have hPc := hP.sub (ws' := [(h 1, .inr (0, [.int 0, .ref e0, .int 0]))]) [1] rfl
  have hDc := hD.sub (ws' := [(h 1, .inr (0, [.int 0, .ref e0, .int 0]))]) [1] (by decide) rfl
  have hKc := hK.sub (tys' := []) [] rfl
  have hFc := va_free (wc := [(h 1, .inr (0, [.int 0, .ref e0, .int 0]))]) hD hS hA [1] rfl
  refine va_callFi (va_runF (As := []) (rest := [.int 0]) (hK.1 0 _ rfl).2 ⟨hx, hb, hml, hown, hts⟩ (c_Jx4a65c_size_8abf5 l hlt e0 dC dI s.heap.size (h 1) 0 (.ref e0) 0) (va_cwF 0 hts gX11_runMills_Jx4a65c_size_8abf5_f59Jx4a65c rfl rfl rfl hV.2.1 (by decide +kernel) ⟨Nat.le_of_ble_eq_true rfl, Nat.le_of_ble_eq_true rfl⟩) (pz_preV [] hPc hDc hKc hZ hV hT hS hFc (va_recv hKc hPc (ci := 0) (q0 := 0) rfl rfl)) rfl rfl hl.1 rfl (lv_room (Nat.le_of_ble_eq_true rfl)) dX11_runMills_7 ⟨Nat.le_of_ble_eq_true rfl, Nat.le_of_ble_eq_true rfl⟩) hS (fun q _ h => hFc q h) hFc (fun r_1 u_2 t H locs ht hvm hw_3 hB_4 hz1 hk1 hS => ?_)
  obtain ⟨hP1, hD1⟩ := hB_4
  rw [ht] at hP1
  obtain ⟨hP, hD⟩ := va_join (wr := [(h 0, .inr (12, [.ref (h 1), .ref (h 2), .ref (h 3), .ref (h 4), .ref (h 5), .ref (h 6), .ref (h 8), .ref (h 12), .ref (h 11), .int hu, .int 0, .int (-1), .long 0, .long 0]))]) (w1 := [(h 1, .inr (0, [.int 0, .ref e0, .int 0]))]) hP hD [1] [0] rfl rfl (by decide) (by decide) hk1 hFc hP1 hD1
  have hP : va_P (dC, dI) vwCl [(h 0, .inr (12, [.ref (h 1), .ref (h 2), .ref (h 3), .ref (h 4), .ref (h 5), .ref (h 6), .ref (h 8), .ref (h 12), .ref (h 11), .int hu, .int 0, .int (-1), .long 0, .long 0])), (h 1, .inr (0, [.int 0, .ref e0, .int 0]))] H := hP
  have hD : va_D A [(h 0, .inr (12, [.ref (h 1), .ref (h 2), .ref (h 3), .ref (h 4), .ref (h 5), .ref (h 6), .ref (h 8), .ref (h 12), .ref (h 11), .int hu, .int 0, .int (-1), .long 0, .long 0])), (h 1, .inr (0, [.int 0, .ref e0, .int 0]))] := hD
  subst hw_3
  refine lv_icmp_ge (tgt := 97) hx hb dX11_runMills_12 (by decide) (fun c_5 => ?_) (fun c_5 => ?_)
  rotate_left
  · exact absurd c_5 (by decide)
  refine W.widen (k := 0) (n := 0) (Nat.le_of_ble_eq_true rfl) (Nat.le_of_ble_eq_true rfl) ?_
  have hP9 := hP.sub (ws' := [(h 0, .inr (12, [.ref (h 1), .ref (h 2), .ref (h 3), .ref (h 4), .ref (h 5), .ref (h 6), .ref (h 8), .ref (h 12), .ref (h 11), .int hu, .int 0, .int (-1), .long 0, .long 0])), (h 1, .inr (0, [.int 0, .ref e0, .int 0]))]) [0, 1] rfl
  have hD9 := hD.sub (ws' := [(h 0, .inr (12, [.ref (h 1), .ref (h 2), .ref (h 3), .ref (h 4), .ref (h 5), .ref (h 6), .ref (h 8), .ref (h 12), .ref (h 11), .int hu, .int 0, .int (-1), .long 0, .long 0])), (h 1, .inr (0, [.int 0, .ref e0, .int 0]))]) [0, 1] (by decide) rfl
  exact W.vret hx hb hr (fun t ht hW => ⟨⟨(), rfl, trivial, ⟨(by rw [ht]; exact hP9), hD9⟩⟩, hS.F ht⟩) hS.2.2 dX11_runMills_97
set_option maxHeartbeats 8000000 in
set_option maxRecDepth 100000 in
/-- hours -/
theorem c_X11_hours (l : Launch) (hlt : l.stackTraces = false) (e0 : Nat) (dC : Nat → ClassId) (dI : Nat → Nat → Nat) (sz : Nat) (h : Nat → Nat) (p0 : Int32) : vx_Met l yX11_hours wsX11_hours ({ frames := 6, cells := 1, slots := 6, locals := 82 }) (va_Pc [.ref (h 0), .int p0] (pz_P e0 (dC, dI) [] [(h 0, .inr (12, [.ref (h 1), .ref (h 2), .ref (h 3), .ref (h 4), .ref (h 5), .ref (h 6), .ref (h 8), .ref (h 12), .ref (h 11), .int 0, .int 0, .int (-1), .long 0, .long 0])), (h 1, .inr (0, [.int 0, .ref e0, .int 0])), (h 4, .inr (0, [.int 0, .ref e0, .int 0]))] sz)) (va_Qi (S := Unit) (fun (r : Int32) (_ : Unit) => r = p0 ∧ ((0 ≤ p0 ∧ p0 ≤ 200))) (fun _ _ => True) (va_A [(h 0, .inr (12, [.ref (h 1), .ref (h 2), .ref (h 3), .ref (h 4), .ref (h 5), .ref (h 6), .ref (h 8), .ref (h 12), .ref (h 11), .int 0, .int 0, .int (-1), .long 0, .long 0])), (h 1, .inr (0, [.int 0, .ref e0, .int 0])), (h 4, .inr (0, [.int 0, .ref e0, .int 0]))] sz)) (pz_X pz_I (¬ ((0 ≤ p0 ∧ p0 ≤ 200))) (va_A [(h 0, .inr (12, [.ref (h 1), .ref (h 2), .ref (h 3), .ref (h 4), .ref (h 5), .ref (h 6), .ref (h 8), .ref (h 12), .ref (h 11), .int 0, .int 0, .int (-1), .long 0, .long 0])), (h 1, .inr (0, [.int 0, .ref e0, .int 0])), (h 4, .inr (0, [.int 0, .ref e0, .int 0]))] sz)) 1 6 (va_A [(h 0, .inr (12, [.ref (h 1), .ref (h 2), .ref (h 3), .ref (h 4), .ref (h 5), .ref (h 6), .ref (h 8), .ref (h 12), .ref (h 11), .int 0, .int 0, .int (-1), .long 0, .long 0])), (h 1, .inr (0, [.int 0, .ref e0, .int 0])), (h 4, .inr (0, [.int 0, .ref e0, .int 0]))] sz) := by
  refine vx_ofW (cc := cX11_hours) (maxL := 3) (ret := (some .int)) (by decide) rfl ?_
  intro p e s m args below meth c s₁ B hml hout hv
  obtain ⟨rfl, hsz, hP, hK, hD0, hZ, hV, hT⟩ := hv
  have hx := B.exec
  have hb := B.bytes
  have hr := B.returns
  have hts := atoms_spec (ws := wsX11_hours) B.pre
  have hown : s.vm.findClass RX11 = some m.cls := findClass_of_methodNamed B.named
  have hlocks := B.notSynchronized
  have hinX11 : ∀ w ∈ wsX110, w ∈ wsX11_hours := fun w h => by unfold wsX11_hours; simp only [List.mem_cons, List.mem_append, h, or_true, true_or]
  subst hsz
  have hD := hD0.self (sz := s.heap.size)
  generalize hAe : va_A [(h 0, .inr (12, [.ref (h 1), .ref (h 2), .ref (h 3), .ref (h 4), .ref (h 5), .ref (h 6), .ref (h 8), .ref (h 12), .ref (h 11), .int 0, .int 0, .int (-1), .long 0, .long 0])), (h 1, .inr (0, [.int 0, .ref e0, .int 0])), (h 4, .inr (0, [.int 0, .ref e0, .int 0]))] s.heap.size = A at hD hZ hT ⊢
  have hA : ∀ q : Nat, s.heap.size ≤ q → A q := fun q h => by rw [← hAe]; exact Or.inr h
  have hS : va_S A s.heap s.heap [] := va_S.rf
  have hP : va_P (dC, dI) vwCl [(h 0, .inr (12, [.ref (h 1), .ref (h 2), .ref (h 3), .ref (h 4), .ref (h 5), .ref (h 6), .ref (h 8), .ref (h 12), .ref (h 11), .int 0, .int 0, .int (-1), .long 0, .long 0])), (h 1, .inr (0, [.int 0, .ref e0, .int 0])), (h 4, .inr (0, [.int 0, .ref e0, .int 0]))] s.heap := hP
  have hl := lv_entry ([.ref (h 0), .int p0]) (n := 3) (Nat.le_of_ble_eq_true rfl)
  rw [lg_entry_eq]
  generalize (lg_sl ([.ref (h 0), .int p0]) ++ List.replicate (3 - (lg_sl ([.ref (h 0), .int p0])).length) Slot.unset).toArray = ls at hl ⊢
  have hl : lv_has ls 3 [(0, .ref (h 0)), (1, .int p0)] := hl
  refine lv_iload_n hx hb dX11_hours_0 rfl (lv_at hl 1 rfl) ?_
  refine lv_iconst (v := 0) hx hb dX11_hours_1 (by decide) ?_
  refine lv_sipush (v := 200) hx hb dX11_hours_2 (by decide) ?_
  have hPc := hP.sub (ws' := []) [] rfl
  have hDc := hD.sub (ws' := []) [] (by decide) rfl
  have hKc := hK.sub (tys' := []) [] rfl
  have hFc := va_free (wc := []) hD hS hA [] rfl
  refine va_calli (va_runS (As := [.int p0, .int 0, .int 200]) (rest := []) ⟨hx, hb, hml, hown, hts⟩ (c_X11_isWithin l hlt e0 dC dI s.heap.size p0 0 200) (va_cwS 3 hts gX11_hours_X11_isWithin rfl rfl rfl (by decide +kernel) ⟨Nat.le_of_ble_eq_true rfl, Nat.le_of_ble_eq_true rfl⟩) (pz_preS [.int p0, .int 0, .int 200] hPc hDc hKc hZ hV hT hS hFc) rfl rfl hl.1 rfl (lv_room (Nat.le_of_ble_eq_true rfl)) dX11_hours_5 ⟨Nat.le_of_ble_eq_true rfl, Nat.le_of_ble_eq_true rfl⟩) hS (fun q _ h => hFc q h) hFc (fun r_1 u_2 t H locs ht hvm hw_3 hB_4 hz1 hk1 hS => ?_)
  obtain ⟨hP, hD⟩ := pz_rest (wr := [(h 0, .inr (12, [.ref (h 1), .ref (h 2), .ref (h 3), .ref (h 4), .ref (h 5), .ref (h 6), .ref (h 8), .ref (h 12), .ref (h 11), .int 0, .int 0, .int (-1), .long 0, .long 0])), (h 1, .inr (0, [.int 0, .ref e0, .int 0])), (h 4, .inr (0, [.int 0, .ref e0, .int 0]))]) hP hD [] [0, 1, 2] rfl rfl (by decide) (by decide) hk1 hFc
  rcases hw_3 with ⟨rfl, wi_5⟩ | ⟨rfl, wi_5⟩
  ·
    refine lv_if_eq (tgt := 23) hx hb dX11_hours_8 (by decide) (fun c_6 => ?_) (fun c_6 => ?_)
    · exact absurd c_6 (by decide)
    refine lv_aload_n hx hb dX11_hours_11 rfl (lv_at hl 0 rfl) ?_
    refine va_get (D := (dC, dI)) (ci := 12) (v := .int 0) (C := RX11) (T := TX11) (N := 14) hx hb hts hinX11 hown hK hP 0 rfl rfl 9 (by decide) (hts (.fieldLink RX11 136 "LogRiver" "hour" "I") (by decide +kernel)) (fun _ h9 => h9) rfl dX11_hours_12 ?_
    refine lv_iload_n hx hb dX11_hours_15 rfl (lv_at hl 1 rfl) ?_
    refine lv_iadd hx hb dX11_hours_16 ?_
    refine lv_topi (fun x_7 ex_7 => ?_)
    refine lv_sipush (v := 20000) hx hb dX11_hours_17 (by decide) ?_
    refine lv_icmp_le (tgt := 33) hx hb dX11_hours_20 (by decide) (fun c_8 => ?_) (fun c_8 => ?_)
    ·
      obtain ⟨NN, hNN, hpN⟩ := nI_of2 (n := 200) (M := 200) (by decide) (Int32.not_lt.mpr wi_5.1) wi_5.2
      subst hpN
      refine lv_iconst (v := 0) hx hb dX11_hours_33 (by decide) ?_
      refine lv_istore_n (lv' := [(2, .int 0), (0, .ref (h 0)), (1, .int (nI NN))]) hx hb dX11_hours_34 rfl hl (by decide) rfl (fun ls hl => ?_)
      refine W.eq (g2 := F0 m 35 ls []) rfl ?_
      refine pz_loopW NN (fun j ls H locs => lv_has ls 3 [(2, .int (nI j)), (0, .ref (h 0)), (1, .int (nI NN))] ∧ va_P (dC, dI) vwCl [(h 0, .inr (12, [.ref (h 1), .ref (h 2), .ref (h 3), .ref (h 4), .ref (h 5), .ref (h 6), .ref (h 8), .ref (h 12), .ref (h 11), .int (nI j), .int 0, .int (-1), .long 0, .long 0])), (h 1, .inr (0, [.int 0, .ref e0, .int 0])), (h 4, .inr (0, [.int 0, .ref e0, .int 0]))] H ∧ va_D A [(h 0, .inr (12, [.ref (h 1), .ref (h 2), .ref (h 3), .ref (h 4), .ref (h 5), .ref (h 6), .ref (h 8), .ref (h 12), .ref (h 11), .int (nI j), .int 0, .int (-1), .long 0, .long 0])), (h 1, .inr (0, [.int 0, .ref e0, .int 0])), (h 4, .inr (0, [.int 0, .ref e0, .int 0]))] ∧ va_S A s.heap H locs) ?_ ⟨?_, ?_, ?_, hS⟩
      ·
        intro j hj ih ls H locs hh
        obtain ⟨hl, hP, hD, hS⟩ := hh
        refine lv_iload_n hx hb dX11_hours_35 rfl (lv_at hl 0 rfl) ?_
        refine lv_iload_n hx hb dX11_hours_36 rfl (lv_at hl 2 rfl) ?_
        refine lv_icmp_ge (tgt := 84) hx hb dX11_hours_37 (by decide) (fun c_9 => ?_) (fun c_9 => ?_)
        ·
          have hje : NN = j := Nat.le_antisymm (pz_jge rfl c_9 (by omega)) hj
          subst hje
          refine lv_aload_n hx hb dX11_hours_84 rfl (lv_at hl 1 rfl) ?_
          refine va_get (D := (dC, dI)) (ci := 12) (v := .int (nI NN)) (C := RX11) (T := TX11) (N := 14) hx hb hts hinX11 hown hK hP 0 rfl rfl 9 (by decide) (hts (.fieldLink RX11 136 "LogRiver" "hour" "I") (by decide +kernel)) (fun _ h9 => h9) rfl dX11_hours_85 ?_
          refine W.widen (k := 1) (n := 6) (Nat.le_of_ble_eq_true rfl) (Nat.le_of_ble_eq_true rfl) ?_
          refine vx_ret ?_
          exact W.iret (v := nI NN) hx hb hr (fun t ht hW => ⟨⟨nI NN, (), rfl, ⟨rfl, nI_pos' (by omega), nI_le (b := 200) hNN (by decide)⟩, trivial⟩, hS.F ht⟩) hS.2.2 dX11_hours_88
        ·
          have hjlt : j < NN := pz_jlt rfl c_9 (by omega)
          refine lv_aload_n hx hb dX11_hours_40 rfl (lv_at hl 1 rfl) ?_
          have hPc := hP.sub (ws' := [(h 0, .inr (12, [.ref (h 1), .ref (h 2), .ref (h 3), .ref (h 4), .ref (h 5), .ref (h 6), .ref (h 8), .ref (h 12), .ref (h 11), .int (nI j), .int 0, .int (-1), .long 0, .long 0])), (h 1, .inr (0, [.int 0, .ref e0, .int 0]))]) [0, 1] rfl
          have hDc := hD.sub (ws' := [(h 0, .inr (12, [.ref (h 1), .ref (h 2), .ref (h 3), .ref (h 4), .ref (h 5), .ref (h 6), .ref (h 8), .ref (h 12), .ref (h 11), .int (nI j), .int 0, .int (-1), .long 0, .long 0])), (h 1, .inr (0, [.int 0, .ref e0, .int 0]))]) [0, 1] (by decide) rfl
          have hKc := hK.sub (tys' := []) [] rfl
          have hFc := va_free (wc := [(h 0, .inr (12, [.ref (h 1), .ref (h 2), .ref (h 3), .ref (h 4), .ref (h 5), .ref (h 6), .ref (h 8), .ref (h 12), .ref (h 11), .int (nI j), .int 0, .int (-1), .long 0, .long 0])), (h 1, .inr (0, [.int 0, .ref e0, .int 0]))]) hD hS hA [0, 1] rfl
          refine va_callv (va_runV (As := []) (rest := []) ⟨hx, hb, hml, hown, hts⟩ (c_X11_runWater l hlt e0 dC dI H.size h (nI j)) (cwV 0 hts gX11_hours_X11_runWater rfl rfl rfl (by decide +kernel) ⟨Nat.le_of_ble_eq_true rfl, Nat.le_of_ble_eq_true rfl⟩) (pz_preV [] hPc hDc hKc hZ hV hT hS hFc (va_recv hKc hPc (ci := 12) (q0 := 0) rfl rfl)) rfl rfl hl.1 rfl (lv_room (Nat.le_of_ble_eq_true rfl)) dX11_hours_41 ⟨Nat.le_of_ble_eq_true rfl, Nat.le_of_ble_eq_true rfl⟩) hS (fun q _ h => hFc q h) hFc (fun u_11 t H locs ht hvm hw_12 hB_13 hz1 hk1 hS => ?_)
          obtain ⟨hP1, hD1⟩ := hB_13
          rw [ht] at hP1
          obtain ⟨hP, hD⟩ := va_join (wr := [(h 4, .inr (0, [.int 0, .ref e0, .int 0]))]) (w1 := [(h 0, .inr (12, [.ref (h 1), .ref (h 2), .ref (h 3), .ref (h 4), .ref (h 5), .ref (h 6), .ref (h 8), .ref (h 12), .ref (h 11), .int (nI j), .int 0, .int (-1), .long 0, .long 0])), (h 1, .inr (0, [.int 0, .ref e0, .int 0]))]) hP hD [0, 1] [2] rfl rfl (by decide) (by decide) hk1 hFc hP1 hD1
          have hP : va_P (dC, dI) vwCl [(h 4, .inr (0, [.int 0, .ref e0, .int 0])), (h 0, .inr (12, [.ref (h 1), .ref (h 2), .ref (h 3), .ref (h 4), .ref (h 5), .ref (h 6), .ref (h 8), .ref (h 12), .ref (h 11), .int (nI j), .int 0, .int (-1), .long 0, .long 0])), (h 1, .inr (0, [.int 0, .ref e0, .int 0]))] H := hP
          have hD : va_D A [(h 4, .inr (0, [.int 0, .ref e0, .int 0])), (h 0, .inr (12, [.ref (h 1), .ref (h 2), .ref (h 3), .ref (h 4), .ref (h 5), .ref (h 6), .ref (h 8), .ref (h 12), .ref (h 11), .int (nI j), .int 0, .int (-1), .long 0, .long 0])), (h 1, .inr (0, [.int 0, .ref e0, .int 0]))] := hD
          refine lv_aload_n hx hb dX11_hours_44 rfl (lv_at hl 1 rfl) ?_
          have hPc := hP.sub (ws' := [(h 0, .inr (12, [.ref (h 1), .ref (h 2), .ref (h 3), .ref (h 4), .ref (h 5), .ref (h 6), .ref (h 8), .ref (h 12), .ref (h 11), .int (nI j), .int 0, .int (-1), .long 0, .long 0])), (h 1, .inr (0, [.int 0, .ref e0, .int 0]))]) [1, 2] rfl
          have hDc := hD.sub (ws' := [(h 0, .inr (12, [.ref (h 1), .ref (h 2), .ref (h 3), .ref (h 4), .ref (h 5), .ref (h 6), .ref (h 8), .ref (h 12), .ref (h 11), .int (nI j), .int 0, .int (-1), .long 0, .long 0])), (h 1, .inr (0, [.int 0, .ref e0, .int 0]))]) [1, 2] (by decide) rfl
          have hKc := hK.sub (tys' := []) [] rfl
          have hFc := va_free (wc := [(h 0, .inr (12, [.ref (h 1), .ref (h 2), .ref (h 3), .ref (h 4), .ref (h 5), .ref (h 6), .ref (h 8), .ref (h 12), .ref (h 11), .int (nI j), .int 0, .int (-1), .long 0, .long 0])), (h 1, .inr (0, [.int 0, .ref e0, .int 0]))]) hD hS hA [1, 2] rfl
          refine va_callv (va_runV (As := []) (rest := []) ⟨hx, hb, hml, hown, hts⟩ (c_X11_moveLogs l hlt e0 dC dI H.size h (nI j)) (cwV 0 hts gX11_hours_X11_moveLogs rfl rfl rfl (by decide +kernel) ⟨Nat.le_of_ble_eq_true rfl, Nat.le_of_ble_eq_true rfl⟩) (pz_preV [] hPc hDc hKc hZ hV hT hS hFc (va_recv hKc hPc (ci := 12) (q0 := 0) rfl rfl)) rfl rfl hl.1 rfl (lv_room (Nat.le_of_ble_eq_true rfl)) dX11_hours_45 ⟨Nat.le_of_ble_eq_true rfl, Nat.le_of_ble_eq_true rfl⟩) hS (fun q _ h => hFc q h) hFc (fun u_15 t H locs ht hvm hw_16 hB_17 hz1 hk1 hS => ?_)
          obtain ⟨hP1, hD1⟩ := hB_17
          rw [ht] at hP1
          obtain ⟨hP, hD⟩ := va_join (wr := [(h 4, .inr (0, [.int 0, .ref e0, .int 0]))]) (w1 := [(h 0, .inr (12, [.ref (h 1), .ref (h 2), .ref (h 3), .ref (h 4), .ref (h 5), .ref (h 6), .ref (h 8), .ref (h 12), .ref (h 11), .int (nI j), .int 0, .int (-1), .long 0, .long 0])), (h 1, .inr (0, [.int 0, .ref e0, .int 0]))]) hP hD [1, 2] [0] rfl rfl (by decide) (by decide) hk1 hFc hP1 hD1
          have hP : va_P (dC, dI) vwCl [(h 4, .inr (0, [.int 0, .ref e0, .int 0])), (h 0, .inr (12, [.ref (h 1), .ref (h 2), .ref (h 3), .ref (h 4), .ref (h 5), .ref (h 6), .ref (h 8), .ref (h 12), .ref (h 11), .int (nI j), .int 0, .int (-1), .long 0, .long 0])), (h 1, .inr (0, [.int 0, .ref e0, .int 0]))] H := hP
          have hD : va_D A [(h 4, .inr (0, [.int 0, .ref e0, .int 0])), (h 0, .inr (12, [.ref (h 1), .ref (h 2), .ref (h 3), .ref (h 4), .ref (h 5), .ref (h 6), .ref (h 8), .ref (h 12), .ref (h 11), .int (nI j), .int 0, .int (-1), .long 0, .long 0])), (h 1, .inr (0, [.int 0, .ref e0, .int 0]))] := hD
          refine lv_aload_n hx hb dX11_hours_48 rfl (lv_at hl 1 rfl) ?_
          have hPc := hP.sub (ws' := [(h 0, .inr (12, [.ref (h 1), .ref (h 2), .ref (h 3), .ref (h 4), .ref (h 5), .ref (h 6), .ref (h 8), .ref (h 12), .ref (h 11), .int (nI j), .int 0, .int (-1), .long 0, .long 0])), (h 1, .inr (0, [.int 0, .ref e0, .int 0]))]) [1, 2] rfl
          have hDc := hD.sub (ws' := [(h 0, .inr (12, [.ref (h 1), .ref (h 2), .ref (h 3), .ref (h 4), .ref (h 5), .ref (h 6), .ref (h 8), .ref (h 12), .ref (h 11), .int (nI j), .int 0, .int (-1), .long 0, .long 0])), (h 1, .inr (0, [.int 0, .ref e0, .int 0]))]) [1, 2] (by decide) rfl
          have hKc := hK.sub (tys' := []) [] rfl
          have hFc := va_free (wc := [(h 0, .inr (12, [.ref (h 1), .ref (h 2), .ref (h 3), .ref (h 4), .ref (h 5), .ref (h 6), .ref (h 8), .ref (h 12), .ref (h 11), .int (nI j), .int 0, .int (-1), .long 0, .long 0])), (h 1, .inr (0, [.int 0, .ref e0, .int 0]))]) hD hS hA [1, 2] rfl
          refine va_callv (va_runV (As := []) (rest := []) ⟨hx, hb, hml, hown, hts⟩ (c_X11_jamCells l hlt e0 dC dI H.size h (nI j)) (cwV 0 hts gX11_hours_X11_jamCells rfl rfl rfl (by decide +kernel) ⟨Nat.le_of_ble_eq_true rfl, Nat.le_of_ble_eq_true rfl⟩) (pz_preV [] hPc hDc hKc hZ hV hT hS hFc (va_recv hKc hPc (ci := 12) (q0 := 0) rfl rfl)) rfl rfl hl.1 rfl (lv_room (Nat.le_of_ble_eq_true rfl)) dX11_hours_49 ⟨Nat.le_of_ble_eq_true rfl, Nat.le_of_ble_eq_true rfl⟩) hS (fun q _ h => hFc q h) hFc (fun u_19 t H locs ht hvm hw_20 hB_21 hz1 hk1 hS => ?_)
          obtain ⟨hP1, hD1⟩ := hB_21
          rw [ht] at hP1
          obtain ⟨hP, hD⟩ := va_join (wr := [(h 4, .inr (0, [.int 0, .ref e0, .int 0]))]) (w1 := [(h 0, .inr (12, [.ref (h 1), .ref (h 2), .ref (h 3), .ref (h 4), .ref (h 5), .ref (h 6), .ref (h 8), .ref (h 12), .ref (h 11), .int (nI j), .int 0, .int (-1), .long 0, .long 0])), (h 1, .inr (0, [.int 0, .ref e0, .int 0]))]) hP hD [1, 2] [0] rfl rfl (by decide) (by decide) hk1 hFc hP1 hD1
          have hP : va_P (dC, dI) vwCl [(h 4, .inr (0, [.int 0, .ref e0, .int 0])), (h 0, .inr (12, [.ref (h 1), .ref (h 2), .ref (h 3), .ref (h 4), .ref (h 5), .ref (h 6), .ref (h 8), .ref (h 12), .ref (h 11), .int (nI j), .int 0, .int (-1), .long 0, .long 0])), (h 1, .inr (0, [.int 0, .ref e0, .int 0]))] H := hP
          have hD : va_D A [(h 4, .inr (0, [.int 0, .ref e0, .int 0])), (h 0, .inr (12, [.ref (h 1), .ref (h 2), .ref (h 3), .ref (h 4), .ref (h 5), .ref (h 6), .ref (h 8), .ref (h 12), .ref (h 11), .int (nI j), .int 0, .int (-1), .long 0, .long 0])), (h 1, .inr (0, [.int 0, .ref e0, .int 0]))] := hD
          refine lv_aload_n hx hb dX11_hours_52 rfl (lv_at hl 1 rfl) ?_
          have hPc := hP.sub (ws' := [(h 0, .inr (12, [.ref (h 1), .ref (h 2), .ref (h 3), .ref (h 4), .ref (h 5), .ref (h 6), .ref (h 8), .ref (h 12), .ref (h 11), .int (nI j), .int 0, .int (-1), .long 0, .long 0])), (h 4, .inr (0, [.int 0, .ref e0, .int 0]))]) [1, 0] rfl
          have hDc := hD.sub (ws' := [(h 0, .inr (12, [.ref (h 1), .ref (h 2), .ref (h 3), .ref (h 4), .ref (h 5), .ref (h 6), .ref (h 8), .ref (h 12), .ref (h 11), .int (nI j), .int 0, .int (-1), .long 0, .long 0])), (h 4, .inr (0, [.int 0, .ref e0, .int 0]))]) [1, 0] (by decide) rfl
          have hKc := hK.sub (tys' := []) [] rfl
          have hFc := va_free (wc := [(h 0, .inr (12, [.ref (h 1), .ref (h 2), .ref (h 3), .ref (h 4), .ref (h 5), .ref (h 6), .ref (h 8), .ref (h 12), .ref (h 11), .int (nI j), .int 0, .int (-1), .long 0, .long 0])), (h 4, .inr (0, [.int 0, .ref e0, .int 0]))]) hD hS hA [1, 0] rfl
          refine va_callv (va_runV (As := []) (rest := []) ⟨hx, hb, hml, hown, hts⟩ (c_X11_freeJams l hlt e0 dC dI H.size h (nI j)) (cwV 0 hts gX11_hours_X11_freeJams rfl rfl rfl (by decide +kernel) ⟨Nat.le_of_ble_eq_true rfl, Nat.le_of_ble_eq_true rfl⟩) (pz_preV [] hPc hDc hKc hZ hV hT hS hFc (va_recv hKc hPc (ci := 12) (q0 := 0) rfl rfl)) rfl rfl hl.1 rfl (lv_room (Nat.le_of_ble_eq_true rfl)) dX11_hours_53 ⟨Nat.le_of_ble_eq_true rfl, Nat.le_of_ble_eq_true rfl⟩) hS (fun q _ h => hFc q h) hFc (fun u_23 t H locs ht hvm hw_24 hB_25 hz1 hk1 hS => ?_)
          obtain ⟨hP1, hD1⟩ := hB_25
          rw [ht] at hP1
          obtain ⟨hP, hD⟩ := va_join (wr := [(h 1, .inr (0, [.int 0, .ref e0, .int 0]))]) (w1 := [(h 0, .inr (12, [.ref (h 1), .ref (h 2), .ref (h 3), .ref (h 4), .ref (h 5), .ref (h 6), .ref (h 8), .ref (h 12), .ref (h 11), .int (nI j), .int 0, .int (-1), .long 0, .long 0])), (h 4, .inr (0, [.int 0, .ref e0, .int 0]))]) hP hD [1, 0] [2] rfl rfl (by decide) (by decide) hk1 hFc hP1 hD1
          have hP : va_P (dC, dI) vwCl [(h 1, .inr (0, [.int 0, .ref e0, .int 0])), (h 0, .inr (12, [.ref (h 1), .ref (h 2), .ref (h 3), .ref (h 4), .ref (h 5), .ref (h 6), .ref (h 8), .ref (h 12), .ref (h 11), .int (nI j), .int 0, .int (-1), .long 0, .long 0])), (h 4, .inr (0, [.int 0, .ref e0, .int 0]))] H := hP
          have hD : va_D A [(h 1, .inr (0, [.int 0, .ref e0, .int 0])), (h 0, .inr (12, [.ref (h 1), .ref (h 2), .ref (h 3), .ref (h 4), .ref (h 5), .ref (h 6), .ref (h 8), .ref (h 12), .ref (h 11), .int (nI j), .int 0, .int (-1), .long 0, .long 0])), (h 4, .inr (0, [.int 0, .ref e0, .int 0]))] := hD
          refine lv_aload_n hx hb dX11_hours_56 rfl (lv_at hl 1 rfl) ?_
          have hPc := hP.sub (ws' := [(h 0, .inr (12, [.ref (h 1), .ref (h 2), .ref (h 3), .ref (h 4), .ref (h 5), .ref (h 6), .ref (h 8), .ref (h 12), .ref (h 11), .int (nI j), .int 0, .int (-1), .long 0, .long 0])), (h 1, .inr (0, [.int 0, .ref e0, .int 0])), (h 4, .inr (0, [.int 0, .ref e0, .int 0]))]) [1, 0, 2] rfl
          have hDc := hD.sub (ws' := [(h 0, .inr (12, [.ref (h 1), .ref (h 2), .ref (h 3), .ref (h 4), .ref (h 5), .ref (h 6), .ref (h 8), .ref (h 12), .ref (h 11), .int (nI j), .int 0, .int (-1), .long 0, .long 0])), (h 1, .inr (0, [.int 0, .ref e0, .int 0])), (h 4, .inr (0, [.int 0, .ref e0, .int 0]))]) [1, 0, 2] (by decide) rfl
          have hKc := hK.sub (tys' := []) [] rfl
          have hFc := va_free (wc := [(h 0, .inr (12, [.ref (h 1), .ref (h 2), .ref (h 3), .ref (h 4), .ref (h 5), .ref (h 6), .ref (h 8), .ref (h 12), .ref (h 11), .int (nI j), .int 0, .int (-1), .long 0, .long 0])), (h 1, .inr (0, [.int 0, .ref e0, .int 0])), (h 4, .inr (0, [.int 0, .ref e0, .int 0]))]) hD hS hA [1, 0, 2] rfl
          refine va_callv (va_runV (As := []) (rest := []) ⟨hx, hb, hml, hown, hts⟩ (c_X11_makeJamsKnown l hlt e0 dC dI H.size h (nI j)) (cwV 0 hts gX11_hours_X11_makeJamsKnown rfl rfl rfl (by decide +kernel) ⟨Nat.le_of_ble_eq_true rfl, Nat.le_of_ble_eq_true rfl⟩) (pz_preV [] hPc hDc hKc hZ hV hT hS hFc (va_recv hKc hPc (ci := 12) (q0 := 0) rfl rfl)) rfl rfl hl.1 rfl (lv_room (Nat.le_of_ble_eq_true rfl)) dX11_hours_57 ⟨Nat.le_of_ble_eq_true rfl, Nat.le_of_ble_eq_true rfl⟩) hS (fun q _ h => hFc q h) hFc (fun u_27 t H locs ht hvm hw_28 hB_29 hz1 hk1 hS => ?_)
          obtain ⟨hP1, hD1⟩ := hB_29
          rw [ht] at hP1
          obtain ⟨hP, hD⟩ := va_join (wr := []) (w1 := [(h 0, .inr (12, [.ref (h 1), .ref (h 2), .ref (h 3), .ref (h 4), .ref (h 5), .ref (h 6), .ref (h 8), .ref (h 12), .ref (h 11), .int (nI j), .int 0, .int (-1), .long 0, .long 0])), (h 1, .inr (0, [.int 0, .ref e0, .int 0])), (h 4, .inr (0, [.int 0, .ref e0, .int 0]))]) hP hD [1, 0, 2] [] rfl rfl (by decide) (by decide) hk1 hFc hP1 hD1
          have hP : va_P (dC, dI) vwCl [(h 0, .inr (12, [.ref (h 1), .ref (h 2), .ref (h 3), .ref (h 4), .ref (h 5), .ref (h 6), .ref (h 8), .ref (h 12), .ref (h 11), .int (nI j), .int 0, .int (-1), .long 0, .long 0])), (h 1, .inr (0, [.int 0, .ref e0, .int 0])), (h 4, .inr (0, [.int 0, .ref e0, .int 0]))] H := hP
          have hD : va_D A [(h 0, .inr (12, [.ref (h 1), .ref (h 2), .ref (h 3), .ref (h 4), .ref (h 5), .ref (h 6), .ref (h 8), .ref (h 12), .ref (h 11), .int (nI j), .int 0, .int (-1), .long 0, .long 0])), (h 1, .inr (0, [.int 0, .ref e0, .int 0])), (h 4, .inr (0, [.int 0, .ref e0, .int 0]))] := hD
          refine lv_aload_n hx hb dX11_hours_60 rfl (lv_at hl 1 rfl) ?_
          have hPc := hP.sub (ws' := [(h 0, .inr (12, [.ref (h 1), .ref (h 2), .ref (h 3), .ref (h 4), .ref (h 5), .ref (h 6), .ref (h 8), .ref (h 12), .ref (h 11), .int (nI j), .int 0, .int (-1), .long 0, .long 0])), (h 1, .inr (0, [.int 0, .ref e0, .int 0]))]) [0, 1] rfl
          have hDc := hD.sub (ws' := [(h 0, .inr (12, [.ref (h 1), .ref (h 2), .ref (h 3), .ref (h 4), .ref (h 5), .ref (h 6), .ref (h 8), .ref (h 12), .ref (h 11), .int (nI j), .int 0, .int (-1), .long 0, .long 0])), (h 1, .inr (0, [.int 0, .ref e0, .int 0]))]) [0, 1] (by decide) rfl
          have hKc := hK.sub (tys' := []) [] rfl
          have hFc := va_free (wc := [(h 0, .inr (12, [.ref (h 1), .ref (h 2), .ref (h 3), .ref (h 4), .ref (h 5), .ref (h 6), .ref (h 8), .ref (h 12), .ref (h 11), .int (nI j), .int 0, .int (-1), .long 0, .long 0])), (h 1, .inr (0, [.int 0, .ref e0, .int 0]))]) hD hS hA [0, 1] rfl
          refine va_callv (va_runV (As := []) (rest := []) ⟨hx, hb, hml, hown, hts⟩ (c_X11_ageLogs l hlt e0 dC dI H.size h (nI j)) (cwV 0 hts gX11_hours_X11_ageLogs rfl rfl rfl (by decide +kernel) ⟨Nat.le_of_ble_eq_true rfl, Nat.le_of_ble_eq_true rfl⟩) (pz_preV [] hPc hDc hKc hZ hV hT hS hFc (va_recv hKc hPc (ci := 12) (q0 := 0) rfl rfl)) rfl rfl hl.1 rfl (lv_room (Nat.le_of_ble_eq_true rfl)) dX11_hours_61 ⟨Nat.le_of_ble_eq_true rfl, Nat.le_of_ble_eq_true rfl⟩) hS (fun q _ h => hFc q h) hFc (fun u_31 t H locs ht hvm hw_32 hB_33 hz1 hk1 hS => ?_)
          obtain ⟨hP1, hD1⟩ := hB_33
          rw [ht] at hP1
          obtain ⟨hP, hD⟩ := va_join (wr := [(h 4, .inr (0, [.int 0, .ref e0, .int 0]))]) (w1 := [(h 0, .inr (12, [.ref (h 1), .ref (h 2), .ref (h 3), .ref (h 4), .ref (h 5), .ref (h 6), .ref (h 8), .ref (h 12), .ref (h 11), .int (nI j), .int 0, .int (-1), .long 0, .long 0])), (h 1, .inr (0, [.int 0, .ref e0, .int 0]))]) hP hD [0, 1] [2] rfl rfl (by decide) (by decide) hk1 hFc hP1 hD1
          have hP : va_P (dC, dI) vwCl [(h 4, .inr (0, [.int 0, .ref e0, .int 0])), (h 0, .inr (12, [.ref (h 1), .ref (h 2), .ref (h 3), .ref (h 4), .ref (h 5), .ref (h 6), .ref (h 8), .ref (h 12), .ref (h 11), .int (nI j), .int 0, .int (-1), .long 0, .long 0])), (h 1, .inr (0, [.int 0, .ref e0, .int 0]))] H := hP
          have hD : va_D A [(h 4, .inr (0, [.int 0, .ref e0, .int 0])), (h 0, .inr (12, [.ref (h 1), .ref (h 2), .ref (h 3), .ref (h 4), .ref (h 5), .ref (h 6), .ref (h 8), .ref (h 12), .ref (h 11), .int (nI j), .int 0, .int (-1), .long 0, .long 0])), (h 1, .inr (0, [.int 0, .ref e0, .int 0]))] := hD
          refine lv_aload_n hx hb dX11_hours_64 rfl (lv_at hl 1 rfl) ?_
          have hPc := hP.sub (ws' := [(h 0, .inr (12, [.ref (h 1), .ref (h 2), .ref (h 3), .ref (h 4), .ref (h 5), .ref (h 6), .ref (h 8), .ref (h 12), .ref (h 11), .int (nI j), .int 0, .int (-1), .long 0, .long 0])), (h 1, .inr (0, [.int 0, .ref e0, .int 0]))]) [1, 2] rfl
          have hDc := hD.sub (ws' := [(h 0, .inr (12, [.ref (h 1), .ref (h 2), .ref (h 3), .ref (h 4), .ref (h 5), .ref (h 6), .ref (h 8), .ref (h 12), .ref (h 11), .int (nI j), .int 0, .int (-1), .long 0, .long 0])), (h 1, .inr (0, [.int 0, .ref e0, .int 0]))]) [1, 2] (by decide) rfl
          have hKc := hK.sub (tys' := []) [] rfl
          have hFc := va_free (wc := [(h 0, .inr (12, [.ref (h 1), .ref (h 2), .ref (h 3), .ref (h 4), .ref (h 5), .ref (h 6), .ref (h 8), .ref (h 12), .ref (h 11), .int (nI j), .int 0, .int (-1), .long 0, .long 0])), (h 1, .inr (0, [.int 0, .ref e0, .int 0]))]) hD hS hA [1, 2] rfl
          refine va_callv (va_runV (As := []) (rest := []) ⟨hx, hb, hml, hown, hts⟩ (c_X11_runMills l hlt e0 dC dI H.size h (nI j)) (cwV 0 hts gX11_hours_X11_runMills rfl rfl rfl (by decide +kernel) ⟨Nat.le_of_ble_eq_true rfl, Nat.le_of_ble_eq_true rfl⟩) (pz_preV [] hPc hDc hKc hZ hV hT hS hFc (va_recv hKc hPc (ci := 12) (q0 := 0) rfl rfl)) rfl rfl hl.1 rfl (lv_room (Nat.le_of_ble_eq_true rfl)) dX11_hours_65 ⟨Nat.le_of_ble_eq_true rfl, Nat.le_of_ble_eq_true rfl⟩) hS (fun q _ h => hFc q h) hFc (fun u_35 t H locs ht hvm hw_36 hB_37 hz1 hk1 hS => ?_)
          obtain ⟨hP1, hD1⟩ := hB_37
          rw [ht] at hP1
          obtain ⟨hP, hD⟩ := va_join (wr := [(h 4, .inr (0, [.int 0, .ref e0, .int 0]))]) (w1 := [(h 0, .inr (12, [.ref (h 1), .ref (h 2), .ref (h 3), .ref (h 4), .ref (h 5), .ref (h 6), .ref (h 8), .ref (h 12), .ref (h 11), .int (nI j), .int 0, .int (-1), .long 0, .long 0])), (h 1, .inr (0, [.int 0, .ref e0, .int 0]))]) hP hD [1, 2] [0] rfl rfl (by decide) (by decide) hk1 hFc hP1 hD1
          have hP : va_P (dC, dI) vwCl [(h 4, .inr (0, [.int 0, .ref e0, .int 0])), (h 0, .inr (12, [.ref (h 1), .ref (h 2), .ref (h 3), .ref (h 4), .ref (h 5), .ref (h 6), .ref (h 8), .ref (h 12), .ref (h 11), .int (nI j), .int 0, .int (-1), .long 0, .long 0])), (h 1, .inr (0, [.int 0, .ref e0, .int 0]))] H := hP
          have hD : va_D A [(h 4, .inr (0, [.int 0, .ref e0, .int 0])), (h 0, .inr (12, [.ref (h 1), .ref (h 2), .ref (h 3), .ref (h 4), .ref (h 5), .ref (h 6), .ref (h 8), .ref (h 12), .ref (h 11), .int (nI j), .int 0, .int (-1), .long 0, .long 0])), (h 1, .inr (0, [.int 0, .ref e0, .int 0]))] := hD
          refine lv_aload_n hx hb dX11_hours_68 rfl (lv_at hl 1 rfl) ?_
          refine lv_dup hx hb dX11_hours_69 rfl ?_
          refine va_get (D := (dC, dI)) (ci := 12) (v := .int (nI j)) (C := RX11) (T := TX11) (N := 14) hx hb hts hinX11 hown hK hP 1 rfl rfl 9 (by decide) (hts (.fieldLink RX11 136 "LogRiver" "hour" "I") (by decide +kernel)) (fun _ h9 => h9) rfl dX11_hours_70 ?_
          refine lv_iconst (v := 1) hx hb dX11_hours_73 (by decide) ?_
          refine lv_iadd hx hb dX11_hours_74 ?_
          refine lv_topi (fun x_38 ex_38 => ?_)
          obtain rfl : x_38 = nI (j + 1) := ex_38.trans (nI_1 j)
          refine va_put (D := (dC, dI)) (ci := 12) (v := .int (nI (j + 1))) (ty := .int) (C := RX11) (T := TX11) (N := 14) hx hb hts hinX11 tyX11 tyX11_ok nmX11 hown hK hP hD hS 1 rfl rfl 9 (by decide) (hts (.fieldLink RX11 136 "LogRiver" "hour" "I") (by decide +kernel)) (fun _ h9 => h9) rfl (by decide +kernel) rfl rfl (Nat.le_of_ble_eq_true rfl) dX11_hours_75 (fun H locs hP hD hS => ?_)
          have hP : va_P (dC, dI) vwCl [(h 4, .inr (0, [.int 0, .ref e0, .int 0])), (h 0, .inr (12, [.ref (h 1), .ref (h 2), .ref (h 3), .ref (h 4), .ref (h 5), .ref (h 6), .ref (h 8), .ref (h 12), .ref (h 11), .int (nI (j + 1)), .int 0, .int (-1), .long 0, .long 0])), (h 1, .inr (0, [.int 0, .ref e0, .int 0]))] H := hP
          have hD : va_D A [(h 4, .inr (0, [.int 0, .ref e0, .int 0])), (h 0, .inr (12, [.ref (h 1), .ref (h 2), .ref (h 3), .ref (h 4), .ref (h 5), .ref (h 6), .ref (h 8), .ref (h 12), .ref (h 11), .int (nI (j + 1)), .int 0, .int (-1), .long 0, .long 0])), (h 1, .inr (0, [.int 0, .ref e0, .int 0]))] := hD
          refine lv_iinc (v := nI (j + 1)) (lv' := [(2, .int (nI (j + 1))), (0, .ref (h 0)), (1, .int (nI NN))]) hx hb dX11_hours_78 hl (k := 0) rfl (nI_1 j) (by decide) rfl (fun ls hl => ?_)
          refine lv_goto (tgt := 35) hx hb dX11_hours_81 (by decide) ?_
          exact ih ls H locs ⟨lv_sub hl [0, 1, 2] rfl, hP.sub [1, 2, 0] rfl, hD.sub [1, 2, 0] (by decide) rfl, hS⟩ hjlt
      · exact lv_sub hl [0, 1, 2] rfl
      · exact hP.sub [0, 1, 2] rfl
      · exact hD.sub [0, 1, 2] (by decide) rfl
    ·
      obtain ⟨NN, hNN, hpN⟩ := nI_of2 (n := 200) (M := 200) (by decide) (Int32.not_lt.mpr wi_5.1) wi_5.2
      exact absurd c_8 (by rw [ex_7, hpN, show (0 : Int32) = nI 0 from rfl, nI_add, Nat.zero_add]; exact not_not_intro (nI_le (b := 20000) (by omega) (by decide)))
  ·
    refine lv_if_eq (tgt := 23) hx hb dX11_hours_8 (by decide) (fun c_39 => ?_) (fun c_39 => ?_)
    rotate_left
    · exact absurd c_39 (by decide)
    exact pz_throwI (is := 224) (text := "no such number of hours") (cnd := ¬ ((0 ≤ p0 ∧ p0 ≤ 200))) wi_5 (by decide +kernel) hx hb hlt hown hts (by decide +kernel) (by decide +kernel) (fun w h => by unfold wsX11_hours; simp only [List.mem_cons, List.mem_append, h, or_true, true_or]) hV hZ hS (hl.1.trans hml.symm) dX11_hours_23 dX11_hours_26 dX11_hours_27 dX11_hours_29 dX11_hours_32 hout (Nat.le_of_ble_eq_true rfl) (Nat.le_of_ble_eq_true rfl) (Nat.le_of_ble_eq_true rfl) (Nat.le_of_ble_eq_true rfl) hlocks (Nat.le_of_ble_eq_true rfl) (Nat.le_of_ble_eq_true rfl)

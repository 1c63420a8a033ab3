theorem dJ7_copyOf_59c91_0 : decode cJ7_copyOf_59c91 0 = .ok (.iload_n 1, 1) := by decide +kernel
theorem dJ7_copyOf_59c91_1 : decode cJ7_copyOf_59c91 1 = .ok (.aload_n 0, 1) := by decide +kernel
theorem dJ7_copyOf_59c91_2 : decode cJ7_copyOf_59c91 2 = .ok (.arraylength, 1) := by decide +kernel
theorem dJ7_copyOf_59c91_3 : decode cJ7_copyOf_59c91 3 = .ok (.if_icmp .ne 11, 3) := by decide +kernel
theorem dJ7_copyOf_59c91_14 : decode cJ7_copyOf_59c91 14 = .ok (.iload_n 1, 1) := by decide +kernel
theorem dJ7_copyOf_59c91_15 : decode cJ7_copyOf_59c91 15 = .ok (.newarray .int, 2) := by decide +kernel
theorem dJ7_copyOf_59c91_17 : decode cJ7_copyOf_59c91 17 = .ok (.astore_n 2, 1) := by decide +kernel
theorem dJ7_copyOf_59c91_18 : decode cJ7_copyOf_59c91 18 = .ok (.aload_n 0, 1) := by decide +kernel
theorem dJ7_copyOf_59c91_19 : decode cJ7_copyOf_59c91 19 = .ok (.iconst 0, 1) := by decide +kernel
theorem dJ7_copyOf_59c91_20 : decode cJ7_copyOf_59c91 20 = .ok (.aload_n 2, 1) := by decide +kernel
theorem dJ7_copyOf_59c91_21 : decode cJ7_copyOf_59c91 21 = .ok (.iconst 0, 1) := by decide +kernel
theorem dJ7_copyOf_59c91_22 : decode cJ7_copyOf_59c91 22 = .ok (.aload_n 0, 1) := by decide +kernel
theorem dJ7_copyOf_59c91_23 : decode cJ7_copyOf_59c91 23 = .ok (.arraylength, 1) := by decide +kernel
theorem dJ7_copyOf_59c91_24 : decode cJ7_copyOf_59c91 24 = .ok (.iload_n 1, 1) := by decide +kernel
theorem dJ7_copyOf_59c91_25 : decode cJ7_copyOf_59c91 25 = .ok (.invokestatic 304, 3) := by decide +kernel
theorem dJ7_copyOf_59c91_28 : decode cJ7_copyOf_59c91 28 = .ok (.invokestatic 150, 3) := by decide +kernel
theorem dJ7_copyOf_59c91_31 : decode cJ7_copyOf_59c91 31 = .ok (.aload_n 2, 1) := by decide +kernel
theorem dJ7_copyOf_59c91_32 : decode cJ7_copyOf_59c91 32 = .ok (.areturn, 1) := by decide +kernel
theorem dJx4a65c_add_72be8_0 : decode cJx4a65c_add_72be8 0 = .ok (.iload_n 3, 1) := by decide +kernel
theorem dJx4a65c_add_72be8_1 : decode cJx4a65c_add_72be8 1 = .ok (.aload_n 2, 1) := by decide +kernel
theorem dJx4a65c_add_72be8_2 : decode cJx4a65c_add_72be8 2 = .ok (.arraylength, 1) := by decide +kernel
theorem dJx4a65c_add_72be8_3 : decode cJx4a65c_add_72be8 3 = .ok (.if_icmp .ne 8, 3) := by decide +kernel
theorem dJx4a65c_add_72be8_6 : decode cJx4a65c_add_72be8 6 = .ok (.aload_n 0, 1) := by decide +kernel
theorem dJx4a65c_add_72be8_7 : decode cJx4a65c_add_72be8 7 = .ok (.invokevirtual 129, 3) := by decide +kernel
theorem dJx4a65c_add_72be8_10 : decode cJx4a65c_add_72be8 10 = .ok (.astore_n 2, 1) := by decide +kernel
theorem dJx4a65c_add_72be8_11 : decode cJx4a65c_add_72be8 11 = .ok (.aload_n 2, 1) := by decide +kernel
theorem dJx4a65c_add_72be8_12 : decode cJx4a65c_add_72be8 12 = .ok (.iload_n 3, 1) := by decide +kernel
theorem dJx4a65c_add_72be8_13 : decode cJx4a65c_add_72be8 13 = .ok (.aload_n 1, 1) := by decide +kernel
theorem dJx4a65c_add_72be8_14 : decode cJx4a65c_add_72be8 14 = .ok (.aastore, 1) := by decide +kernel
theorem dJx4a65c_add_72be8_15 : decode cJx4a65c_add_72be8 15 = .ok (.aload_n 0, 1) := by decide +kernel
theorem dJx4a65c_add_72be8_16 : decode cJx4a65c_add_72be8 16 = .ok (.iload_n 3, 1) := by decide +kernel
theorem dJx4a65c_add_72be8_17 : decode cJx4a65c_add_72be8 17 = .ok (.iconst 1, 1) := by decide +kernel
theorem dJx4a65c_add_72be8_18 : decode cJx4a65c_add_72be8 18 = .ok (.iadd, 1) := by decide +kernel
theorem dJx4a65c_add_72be8_19 : decode cJx4a65c_add_72be8 19 = .ok (.putfield 48, 3) := by decide +kernel
theorem dJx4a65c_add_72be8_22 : decode cJx4a65c_add_72be8 22 = .ok (.return_, 1) := by decide +kernel
theorem dJx4a65c_add_9ea2d_0 : decode cJx4a65c_add_9ea2d 0 = .ok (.aload_n 0, 1) := by decide +kernel
theorem dJx4a65c_add_9ea2d_1 : decode cJx4a65c_add_9ea2d 1 = .ok (.dup, 1) := by decide +kernel
theorem dJx4a65c_add_9ea2d_2 : decode cJx4a65c_add_9ea2d 2 = .ok (.getfield 63, 3) := by decide +kernel
theorem dJx4a65c_add_9ea2d_5 : decode cJx4a65c_add_9ea2d 5 = .ok (.iconst 1, 1) := by decide +kernel
theorem dJx4a65c_add_9ea2d_6 : decode cJx4a65c_add_9ea2d 6 = .ok (.iadd, 1) := by decide +kernel
theorem dJx4a65c_add_9ea2d_7 : decode cJx4a65c_add_9ea2d 7 = .ok (.putfield 63, 3) := by decide +kernel
theorem dJx4a65c_add_9ea2d_10 : decode cJx4a65c_add_9ea2d 10 = .ok (.aload_n 0, 1) := by decide +kernel
theorem dJx4a65c_add_9ea2d_11 : decode cJx4a65c_add_9ea2d 11 = .ok (.aload_n 1, 1) := by decide +kernel
theorem dJx4a65c_add_9ea2d_12 : decode cJx4a65c_add_9ea2d 12 = .ok (.aload_n 0, 1) := by decide +kernel
theorem dJx4a65c_add_9ea2d_13 : decode cJx4a65c_add_9ea2d 13 = .ok (.getfield 9, 3) := by decide +kernel
theorem dJx4a65c_add_9ea2d_16 : decode cJx4a65c_add_9ea2d 16 = .ok (.aload_n 0, 1) := by decide +kernel
theorem dJx4a65c_add_9ea2d_17 : decode cJx4a65c_add_9ea2d 17 = .ok (.getfield 48, 3) := by decide +kernel
theorem dJx4a65c_add_9ea2d_20 : decode cJx4a65c_add_9ea2d 20 = .ok (.invokevirtual 131, 3) := by decide +kernel
theorem dJx4a65c_add_9ea2d_23 : decode cJx4a65c_add_9ea2d 23 = .ok (.iconst 1, 1) := by decide +kernel
theorem dJx4a65c_add_9ea2d_24 : decode cJx4a65c_add_9ea2d 24 = .ok (.ireturn, 1) := by decide +kernel
theorem dJx4a65c_grow_92f84_0 : decode cJx4a65c_grow_92f84 0 = .ok (.aload_n 0, 1) := by decide +kernel
theorem dJx4a65c_grow_92f84_1 : decode cJx4a65c_grow_92f84 1 = .ok (.getfield 9, 3) := by decide +kernel
theorem dJx4a65c_grow_92f84_4 : decode cJx4a65c_grow_92f84 4 = .ok (.arraylength, 1) := by decide +kernel
theorem dJx4a65c_grow_92f84_5 : decode cJx4a65c_grow_92f84 5 = .ok (.istore_n 2, 1) := by decide +kernel
theorem dJx4a65c_grow_92f84_6 : decode cJx4a65c_grow_92f84 6 = .ok (.iload_n 2, 1) := by decide +kernel
theorem dJx4a65c_grow_92f84_7 : decode cJx4a65c_grow_92f84 7 = .ok (.ifCond .gt 13, 3) := by decide +kernel
theorem dJx4a65c_grow_92f84_10 : decode cJx4a65c_grow_92f84 10 = .ok (.aload_n 0, 1) := by decide +kernel
theorem dJx4a65c_grow_92f84_11 : decode cJx4a65c_grow_92f84 11 = .ok (.getfield 9, 3) := by decide +kernel
theorem dJx4a65c_grow_92f84_14 : decode cJx4a65c_grow_92f84 14 = .ok (.getstatic 39, 3) := by decide +kernel
theorem dJx4a65c_grow_92f84_17 : decode cJx4a65c_grow_92f84 17 = .ok (.if_acmp .eq 28, 3) := by decide +kernel
theorem dJx4a65c_grow_92f84_45 : decode cJx4a65c_grow_92f84 45 = .ok (.aload_n 0, 1) := by decide +kernel
theorem dJx4a65c_grow_92f84_46 : decode cJx4a65c_grow_92f84 46 = .ok (.bipush 10, 2) := by decide +kernel
theorem dJx4a65c_grow_92f84_48 : decode cJx4a65c_grow_92f84 48 = .ok (.iload_n 1, 1) := by decide +kernel
theorem dJx4a65c_grow_92f84_49 : decode cJx4a65c_grow_92f84 49 = .ok (.invokestatic 79, 3) := by decide +kernel
theorem dJx4a65c_grow_92f84_52 : decode cJx4a65c_grow_92f84 52 = .ok (.anewarray 7, 3) := by decide +kernel
theorem dJx4a65c_grow_92f84_55 : decode cJx4a65c_grow_92f84 55 = .ok (.dup_x1, 1) := by decide +kernel
theorem dJx4a65c_grow_92f84_56 : decode cJx4a65c_grow_92f84 56 = .ok (.putfield 9, 3) := by decide +kernel
theorem dJx4a65c_grow_92f84_59 : decode cJx4a65c_grow_92f84 59 = .ok (.areturn, 1) := by decide +kernel
theorem dJx4a65c_grow_d5877_0 : decode cJx4a65c_grow_d5877 0 = .ok (.aload_n 0, 1) := by decide +kernel
theorem dJx4a65c_grow_d5877_1 : decode cJx4a65c_grow_d5877 1 = .ok (.aload_n 0, 1) := by decide +kernel
theorem dJx4a65c_grow_d5877_2 : decode cJx4a65c_grow_d5877 2 = .ok (.getfield 48, 3) := by decide +kernel
theorem dJx4a65c_grow_d5877_5 : decode cJx4a65c_grow_d5877 5 = .ok (.iconst 1, 1) := by decide +kernel
theorem dJx4a65c_grow_d5877_6 : decode cJx4a65c_grow_d5877 6 = .ok (.iadd, 1) := by decide +kernel
theorem dJx4a65c_grow_d5877_7 : decode cJx4a65c_grow_d5877 7 = .ok (.invokevirtual 69, 3) := by decide +kernel
theorem dJx4a65c_grow_d5877_10 : decode cJx4a65c_grow_d5877 10 = .ok (.areturn, 1) := by decide +kernel
theorem dL_law_0 : decode cL_law 0 = .ok (.aload_n 3, 1) := by decide +kernel
theorem dL_law_1 : decode cL_law 1 = .ok (.iconst 0, 1) := by decide +kernel
theorem dL_law_2 : decode cL_law 2 = .ok (.aload_n 0, 1) := by decide +kernel
theorem dL_law_3 : decode cL_law 3 = .ok (.iload_n 1, 1) := by decide +kernel
theorem dL_law_4 : decode cL_law 4 = .ok (.iload_n 2, 1) := by decide +kernel
theorem dL_law_5 : decode cL_law 5 = .ok (.invokevirtual 33, 3) := by decide +kernel
theorem dL_law_8 : decode cL_law 8 = .ok (.i2l, 1) := by decide +kernel
theorem dL_law_9 : decode cL_law 9 = .ok (.lastore, 1) := by decide +kernel
theorem dL_law_10 : decode cL_law 10 = .ok (.goto 7, 3) := by decide +kernel
theorem dL_law_13 : decode cL_law 13 = .ok (.astore 4, 2) := by decide +kernel
theorem dL_law_15 : decode cL_law 15 = .ok (.iconst 1, 1) := by decide +kernel
theorem dL_law_16 : decode cL_law 16 = .ok (.ireturn, 1) := by decide +kernel
theorem dL_law_17 : decode cL_law 17 = .ok (.iconst 0, 1) := by decide +kernel
theorem dL_law_18 : decode cL_law 18 = .ok (.ireturn, 1) := by decide +kernel
theorem dX11_cut_0 : decode cX11_cut 0 = .ok (.aload_n 0, 1) := by decide +kernel
theorem dX11_cut_1 : decode cX11_cut 1 = .ok (.getfield 16, 3) := by decide +kernel
theorem dX11_cut_4 : decode cX11_cut 4 = .ok (.invokeinterface 59 1, 5) := by decide +kernel
theorem dX11_cut_9 : decode cX11_cut 9 = .ok (.sipush 400, 3) := by decide +kernel
theorem dX11_cut_12 : decode cX11_cut 12 = .ok (.if_icmp .ge 13, 3) := by decide +kernel
theorem dX11_cut_15 : decode cX11_cut 15 = .ok (.iload_n 1, 1) := by decide +kernel
theorem dX11_cut_16 : decode cX11_cut 16 = .ok (.iconst 0, 1) := by decide +kernel
theorem dX11_cut_17 : decode cX11_cut 17 = .ok (.bipush 15, 2) := by decide +kernel
theorem dX11_cut_19 : decode cX11_cut 19 = .ok (.invokestatic 65, 3) := by decide +kernel
theorem dX11_cut_22 : decode cX11_cut 22 = .ok (.ifCond .ne 5, 3) := by decide +kernel
theorem dX11_cut_25 : decode cX11_cut 25 = .ok (.iconst (-1), 1) := by decide +kernel
theorem dX11_cut_26 : decode cX11_cut 26 = .ok (.ireturn, 1) := by decide +kernel
theorem dX11_cut_27 : decode cX11_cut 27 = .ok (.iload_n 2, 1) := by decide +kernel
theorem dX11_cut_28 : decode cX11_cut 28 = .ok (.iconst 1, 1) := by decide +kernel
theorem dX11_cut_29 : decode cX11_cut 29 = .ok (.bipush 9, 2) := by decide +kernel
theorem dX11_cut_31 : decode cX11_cut 31 = .ok (.invokestatic 65, 3) := by decide +kernel
theorem dX11_cut_34 : decode cX11_cut 34 = .ok (.ifCond .eq 13, 3) := by decide +kernel
theorem dX11_cut_37 : decode cX11_cut 37 = .ok (.iload_n 3, 1) := by decide +kernel
theorem dX11_cut_38 : decode cX11_cut 38 = .ok (.iconst 0, 1) := by decide +kernel
theorem dX11_cut_39 : decode cX11_cut 39 = .ok (.ldc 186, 2) := by decide +kernel
theorem dX11_cut_41 : decode cX11_cut 41 = .ok (.invokestatic 65, 3) := by decide +kernel
theorem dX11_cut_44 : decode cX11_cut 44 = .ok (.ifCond .ne 5, 3) := by decide +kernel
theorem dX11_cut_47 : decode cX11_cut 47 = .ok (.iconst (-1), 1) := by decide +kernel
theorem dX11_cut_48 : decode cX11_cut 48 = .ok (.ireturn, 1) := by decide +kernel
theorem dX11_cut_49 : decode cX11_cut 49 = .ok (.new 187, 3) := by decide +kernel
theorem dX11_cut_52 : decode cX11_cut 52 = .ok (.dup, 1) := by decide +kernel
theorem dX11_cut_53 : decode cX11_cut 53 = .ok (.aload_n 0, 1) := by decide +kernel
theorem dX11_cut_54 : decode cX11_cut 54 = .ok (.getfield 16, 3) := by decide +kernel
theorem dX11_cut_57 : decode cX11_cut 57 = .ok (.invokeinterface 59 1, 5) := by decide +kernel
theorem dX11_cut_62 : decode cX11_cut 62 = .ok (.iload_n 1, 1) := by decide +kernel
theorem dX11_cut_63 : decode cX11_cut 63 = .ok (.iload_n 2, 1) := by decide +kernel
theorem dX11_cut_64 : decode cX11_cut 64 = .ok (.iload_n 3, 1) := by decide +kernel
theorem dX11_cut_65 : decode cX11_cut 65 = .ok (.invokespecial 189, 3) := by decide +kernel
theorem dX11_cut_68 : decode cX11_cut 68 = .ok (.astore 4, 2) := by decide +kernel
theorem dX11_cut_70 : decode cX11_cut 70 = .ok (.aload_n 0, 1) := by decide +kernel
theorem dX11_cut_71 : decode cX11_cut 71 = .ok (.getfield 16, 3) := by decide +kernel
theorem dX11_cut_74 : decode cX11_cut 74 = .ok (.aload 4, 2) := by decide +kernel
theorem dX11_cut_76 : decode cX11_cut 76 = .ok (.invokeinterface 86 2, 5) := by decide +kernel
theorem dX11_cut_81 : decode cX11_cut 81 = .ok (.pop, 1) := by decide +kernel
theorem dX11_cut_82 : decode cX11_cut 82 = .ok (.aload 4, 2) := by decide +kernel
theorem dX11_cut_84 : decode cX11_cut 84 = .ok (.getfield 192, 3) := by decide +kernel
theorem dX11_cut_87 : decode cX11_cut 87 = .ok (.ireturn, 1) := by decide +kernel
theorem dX11_law_0 : decode cX11_law 0 = .ok (.iload_n 1, 1) := by decide +kernel
theorem dX11_law_1 : decode cX11_law 1 = .ok (.iconst 0, 1) := by decide +kernel
theorem dX11_law_2 : decode cX11_law 2 = .ok (.aload_n 0, 1) := by decide +kernel
theorem dX11_law_3 : decode cX11_law 3 = .ok (.getfield 31, 3) := by decide +kernel
theorem dX11_law_6 : decode cX11_law 6 = .ok (.getfield 145, 3) := by decide +kernel
theorem dX11_law_9 : decode cX11_law 9 = .ok (.invokestatic 65, 3) := by decide +kernel
theorem dX11_law_12 : decode cX11_law 12 = .ok (.ifCond .eq 14, 3) := by decide +kernel
theorem dX11_law_15 : decode cX11_law 15 = .ok (.iload_n 2, 1) := by decide +kernel
theorem dX11_law_16 : decode cX11_law 16 = .ok (.iconst 0, 1) := by decide +kernel
theorem dX11_law_17 : decode cX11_law 17 = .ok (.sipush 1000, 3) := by decide +kernel
theorem dX11_law_20 : decode cX11_law 20 = .ok (.invokestatic 65, 3) := by decide +kernel
theorem dX11_law_23 : decode cX11_law 23 = .ok (.ifCond .ne 13, 3) := by decide +kernel
theorem dX11_law_26 : decode cX11_law 26 = .ok (.new 151, 3) := by decide +kernel
theorem dX11_law_29 : decode cX11_law 29 = .ok (.dup, 1) := by decide +kernel
theorem dX11_law_30 : decode cX11_law 30 = .ok (.ldc 153, 2) := by decide +kernel
theorem dX11_law_32 : decode cX11_law 32 = .ok (.invokespecial 155, 3) := by decide +kernel
theorem dX11_law_35 : decode cX11_law 35 = .ok (.athrow, 1) := by decide +kernel
theorem dX11_law_36 : decode cX11_law 36 = .ok (.aload_n 0, 1) := by decide +kernel
theorem dX11_law_37 : decode cX11_law 37 = .ok (.getfield 31, 3) := by decide +kernel
theorem dX11_law_40 : decode cX11_law 40 = .ok (.iconst 0, 1) := by decide +kernel
theorem dX11_law_41 : decode cX11_law 41 = .ok (.putfield 145, 3) := by decide +kernel
theorem dX11_law_44 : decode cX11_law 44 = .ok (.aload_n 0, 1) := by decide +kernel
theorem dX11_law_45 : decode cX11_law 45 = .ok (.iconst (-1), 1) := by decide +kernel
theorem dX11_law_46 : decode cX11_law 46 = .ok (.putfield 55, 3) := by decide +kernel
theorem dX11_law_49 : decode cX11_law 49 = .ok (.aload_n 0, 1) := by decide +kernel
theorem dX11_law_50 : decode cX11_law 50 = .ok (.getfield 19, 3) := by decide +kernel
theorem dX11_law_53 : decode cX11_law 53 = .ok (.invokeinterface 59 1, 5) := by decide +kernel
theorem dX11_law_58 : decode cX11_law 58 = .ok (.bipush 6, 2) := by decide +kernel
theorem dX11_law_60 : decode cX11_law 60 = .ok (.if_icmp .lt 6, 3) := by decide +kernel
theorem dX11_law_66 : decode cX11_law 66 = .ok (.aload_n 0, 1) := by decide +kernel
theorem dX11_law_67 : decode cX11_law 67 = .ok (.getfield 40, 3) := by decide +kernel
theorem dX11_law_70 : decode cX11_law 70 = .ok (.iload_n 1, 1) := by decide +kernel
theorem dX11_law_71 : decode cX11_law 71 = .ok (.invokevirtual 158, 3) := by decide +kernel
theorem dX11_law_74 : decode cX11_law 74 = .ok (.aload_n 0, 1) := by decide +kernel
theorem dX11_law_75 : decode cX11_law 75 = .ok (.getfield 40, 3) := by decide +kernel
theorem dX11_law_78 : decode cX11_law 78 = .ok (.getfield 161, 3) := by decide +kernel
theorem dX11_law_81 : decode cX11_law 81 = .ok (.ifCond .eq 24, 3) := by decide +kernel
theorem dX11_law_105 : decode cX11_law 105 = .ok (.aload_n 0, 1) := by decide +kernel
theorem dX11_law_106 : decode cX11_law 106 = .ok (.getfield 19, 3) := by decide +kernel
theorem dX11_law_109 : decode cX11_law 109 = .ok (.new 165, 3) := by decide +kernel
theorem dX11_law_112 : decode cX11_law 112 = .ok (.dup, 1) := by decide +kernel
theorem dX11_law_113 : decode cX11_law 113 = .ok (.iload_n 2, 1) := by decide +kernel
theorem dX11_law_114 : decode cX11_law 114 = .ok (.aload_n 0, 1) := by decide +kernel
theorem dX11_law_115 : decode cX11_law 115 = .ok (.getfield 40, 3) := by decide +kernel
theorem dX11_law_118 : decode cX11_law 118 = .ok (.getfield 167, 3) := by decide +kernel
theorem dX11_law_121 : decode cX11_law 121 = .ok (.aload_n 0, 1) := by decide +kernel
theorem dX11_law_122 : decode cX11_law 122 = .ok (.getfield 40, 3) := by decide +kernel
theorem dX11_law_125 : decode cX11_law 125 = .ok (.getfield 171, 3) := by decide +kernel
theorem dX11_law_128 : decode cX11_law 128 = .ok (.invokestatic 174, 3) := by decide +kernel
theorem dX11_law_131 : decode cX11_law 131 = .ok (.invokespecial 180, 3) := by decide +kernel
theorem dX11_law_134 : decode cX11_law 134 = .ok (.invokeinterface 86 2, 5) := by decide +kernel
theorem dX11_law_139 : decode cX11_law 139 = .ok (.pop, 1) := by decide +kernel
theorem dX11_law_140 : decode cX11_law 140 = .ok (.aload_n 0, 1) := by decide +kernel
theorem dX11_law_141 : decode cX11_law 141 = .ok (.getfield 19, 3) := by decide +kernel
theorem dX11_law_144 : decode cX11_law 144 = .ok (.invokeinterface 59 1, 5) := by decide +kernel
theorem dX11_law_149 : decode cX11_law 149 = .ok (.iconst 1, 1) := by decide +kernel
theorem dX11_law_150 : decode cX11_law 150 = .ok (.isub, 1) := by decide +kernel
theorem dX11_law_151 : decode cX11_law 151 = .ok (.ireturn, 1) := by decide +kernel
theorem dX4_init_0 : decode cX4_init 0 = .ok (.aload_n 0, 1) := by decide +kernel
theorem dX4_init_1 : decode cX4_init 1 = .ok (.invokespecial 1, 3) := by decide +kernel
theorem dX4_init_4 : decode cX4_init 4 = .ok (.aload_n 0, 1) := by decide +kernel
theorem dX4_init_5 : decode cX4_init 5 = .ok (.iload_n 1, 1) := by decide +kernel
theorem dX4_init_6 : decode cX4_init 6 = .ok (.putfield 7, 3) := by decide +kernel
theorem dX4_init_9 : decode cX4_init 9 = .ok (.aload_n 0, 1) := by decide +kernel
theorem dX4_init_10 : decode cX4_init 10 = .ok (.aload_n 2, 1) := by decide +kernel
theorem dX4_init_11 : decode cX4_init 11 = .ok (.putfield 13, 3) := by decide +kernel
theorem dX4_init_14 : decode cX4_init 14 = .ok (.return_, 1) := by decide +kernel
theorem dX6_init_0 : decode cX6_init 0 = .ok (.aload_n 0, 1) := by decide +kernel
theorem dX6_init_1 : decode cX6_init 1 = .ok (.invokespecial 3, 3) := by decide +kernel
theorem dX6_init_4 : decode cX6_init 4 = .ok (.aload_n 0, 1) := by decide +kernel
theorem dX6_init_5 : decode cX6_init 5 = .ok (.iload_n 1, 1) := by decide +kernel
theorem dX6_init_6 : decode cX6_init 6 = .ok (.putfield 9, 3) := by decide +kernel
theorem dX6_init_9 : decode cX6_init 9 = .ok (.aload_n 0, 1) := by decide +kernel
theorem dX6_init_10 : decode cX6_init 10 = .ok (.iload_n 2, 1) := by decide +kernel
theorem dX6_init_11 : decode cX6_init 11 = .ok (.putfield 15, 3) := by decide +kernel
theorem dX6_init_14 : decode cX6_init 14 = .ok (.aload_n 0, 1) := by decide +kernel
theorem dX6_init_15 : decode cX6_init 15 = .ok (.iload_n 3, 1) := by decide +kernel
theorem dX6_init_16 : decode cX6_init 16 = .ok (.putfield 18, 3) := by decide +kernel
theorem dX6_init_19 : decode cX6_init 19 = .ok (.aload_n 0, 1) := by decide +kernel
theorem dX6_init_20 : decode cX6_init 20 = .ok (.iload 4, 2) := by decide +kernel
theorem dX6_init_22 : decode cX6_init 22 = .ok (.putfield 21, 3) := by decide +kernel
theorem dX6_init_25 : decode cX6_init 25 = .ok (.aload_n 0, 1) := by decide +kernel
theorem dX6_init_26 : decode cX6_init 26 = .ok (.iconst 0, 1) := by decide +kernel
theorem dX6_init_27 : decode cX6_init 27 = .ok (.putfield 24, 3) := by decide +kernel
theorem dX6_init_30 : decode cX6_init 30 = .ok (.aload_n 0, 1) := by decide +kernel
theorem dX6_init_31 : decode cX6_init 31 = .ok (.iconst (-1), 1) := by decide +kernel
theorem dX6_init_32 : decode cX6_init 32 = .ok (.putfield 27, 3) := by decide +kernel
theorem dX6_init_35 : decode cX6_init 35 = .ok (.aload_n 0, 1) := by decide +kernel
theorem dX6_init_36 : decode cX6_init 36 = .ok (.iconst (-1), 1) := by decide +kernel
theorem dX6_init_37 : decode cX6_init 37 = .ok (.putfield 30, 3) := by decide +kernel
theorem dX6_init_40 : decode cX6_init 40 = .ok (.aload_n 0, 1) := by decide +kernel
theorem dX6_init_41 : decode cX6_init 41 = .ok (.iconst (-1), 1) := by decide +kernel
theorem dX6_init_42 : decode cX6_init 42 = .ok (.putfield 33, 3) := by decide +kernel
theorem dX6_init_45 : decode cX6_init 45 = .ok (.return_, 1) := by decide +kernel
set_option maxRecDepth 20000 in
theorem ggJx4a65c_add_72be8_Jx4a65c_grow_d5877 : GoodIn wsJx4a65c_add_72be8 wsJx4a65c_grow_d5877 := goodIn_r _ [6, 1, 7, 8, 9, 5, 10, 11, 12, 13, 14, 15, 16, 17, 18, 19, 20, 21, 22, 23, 24, 25, 26, 27, 28, 29, 30, 31, 32, 33, 34, 35, 36, 37, 38, 39, 40, 41, 42, 43, 44, 45, 46, 47, 48, 49] (by decide +kernel) (by decide +kernel)
set_option maxRecDepth 20000 in
theorem gJx4a65c_add_72be8_Jx4a65c_grow_d5877 : GoodIn wsJx4a65c_add_72be8 (wsV RJx4a65c 129 RJx4a65c yJx4a65c_grow_d5877 wsJx4a65c_grow_d5877) := goodIn_app (goodIn_of _ (by decide +kernel)) ggJx4a65c_add_72be8_Jx4a65c_grow_d5877
set_option maxRecDepth 20000 in
theorem ggJx4a65c_add_9ea2d_Jx4a65c_add_72be8 : GoodIn wsJx4a65c_add_9ea2d wsJx4a65c_add_72be8 := goodIn_r _ [9, 4, 10, 11, 12, 8, 13, 14, 15, 16, 17, 3, 18, 19, 20, 21, 22, 23, 24, 25, 26, 27, 28, 29, 30, 31, 32, 33, 34, 35, 36, 37, 38, 39, 40, 41, 42, 43, 44, 45, 46, 47, 48, 49, 50, 51, 52, 53, 54, 55] (by decide +kernel) (by decide +kernel)
set_option maxRecDepth 20000 in
theorem gJx4a65c_add_9ea2d_Jx4a65c_add_72be8 : GoodIn wsJx4a65c_add_9ea2d (wsV RJx4a65c 131 RJx4a65c yJx4a65c_add_72be8 wsJx4a65c_add_72be8) := goodIn_app (goodIn_of _ (by decide +kernel)) ggJx4a65c_add_9ea2d_Jx4a65c_add_72be8
set_option maxRecDepth 20000 in
theorem ggJx4a65c_grow_d5877_Jx4a65c_grow_92f84 : GoodIn wsJx4a65c_grow_d5877 wsJx4a65c_grow_92f84 := goodIn_r _ [6, 7, 8, 9, 10, 11, 12, 13, 14, 15, 16, 17, 18, 19, 20, 21, 22, 23, 24, 25, 26, 27, 28, 29, 30, 31, 32, 33, 34, 35, 36, 37, 38, 39, 40, 41, 42, 43, 44, 45] (by decide +kernel) (by decide +kernel)
set_option maxRecDepth 20000 in
theorem gJx4a65c_grow_d5877_Jx4a65c_grow_92f84 : GoodIn wsJx4a65c_grow_d5877 (wsV RJx4a65c 69 RJx4a65c yJx4a65c_grow_92f84 wsJx4a65c_grow_92f84) := goodIn_app (goodIn_of _ (by decide +kernel)) ggJx4a65c_grow_d5877_Jx4a65c_grow_92f84
set_option maxRecDepth 20000 in
theorem ggL_law_X11_law : GoodIn wsL_law wsX11_law := goodIn_ca (goodIn_r _ [6, 7, 8, 9, 10, 11, 12, 13, 14, 15, 16, 17, 18, 19, 20, 21, 22, 5, 23, 24, 25, 26, 27, 28, 29, 30, 31, 32, 33, 34, 35, 36, 37, 38, 39, 40, 41, 42, 43, 44, 45, 46, 47, 48, 49, 50, 51, 52, 53, 54, 55, 56, 57, 58, 59, 60, 61, 62, 63, 64, 65, 66, 67, 68, 69, 70, 71, 72, 73, 74, 75, 76, 77, 78, 79, 80, 81, 82, 83, 84, 85, 86, 87, 88, 89, 90, 91, 92, 93, 94, 95, 96, 97, 98, 99, 100, 101, 102, 103, 104, 105, 106, 107, 108, 109, 110, 111, 112, 113, 114, 115, 116, 117, 118, 119, 120, 121, 122, 123, 124, 125, 126, 127, 128, 129, 130, 131, 132, 133, 134, 135, 136, 137, 138, 139, 140, 141, 142, 143, 144, 145, 146, 147, 148, 149, 150, 151, 152, 153, 154, 155, 156, 157, 158, 159, 160, 161, 162, 163, 164, 165, 166, 167, 168, 169, 170, 171, 172, 173, 174, 175, 176, 177, 178, 179, 180, 181, 182, 183, 184, 185, 186, 187, 188, 189, 190, 191, 192, 193, 194, 195, 196, 197, 198, 199, 200, 201, 202, 203, 204, 205, 206, 207, 208, 209, 210, 211, 212, 213, 214, 215, 216, 217, 218, 219, 220, 221, 222, 223, 224, 225, 226, 227, 228, 229, 230, 231, 232, 233, 234, 235, 236, 237, 238, 239, 240, 241, 242, 243, 244, 245, 246, 247, 248, 249, 250, 251, 252, 253, 254, 255, 256, 257, 258, 259, 260, 261, 262, 263, 264, 265, 266, 267, 268, 269, 270, 271, 272, 273] (by decide +kernel) (by decide +kernel)) (goodIn_sub (fun _ h => List.mem_cons_of_mem _ (List.mem_append_right _ h)) (by decide +kernel))
set_option maxRecDepth 20000 in
theorem gL_law_X11_law : GoodIn wsL_law (wsV RL 33 RX11 yX11_law wsX11_law) := goodIn_app (goodIn_of _ (by decide +kernel)) ggL_law_X11_law
set_option maxRecDepth 20000 in
theorem ggX11_cut_Jx4a65c_add_9ea2d : GoodIn wsX11_cut wsJx4a65c_add_9ea2d := goodIn_r _ [34, 35, 36, 37, 12, 38, 39, 40, 10, 41, 42, 43, 44, 45, 46, 47, 48, 49, 50, 51, 52, 53, 54, 55, 56, 57, 58, 59, 60, 61, 62, 63, 64, 65, 66, 67, 68, 69, 70, 71, 72, 73, 74, 75, 76, 77, 78, 79, 80, 81, 82, 83, 84, 108, 109, 110] (by decide +kernel) (by decide +kernel)
set_option maxRecDepth 20000 in
theorem gX11_cut_Jx4a65c_add_9ea2d_f86Jx4a65c : GoodIn wsX11_cut (va_wsF RX11 86 RJx4a65c ⟨"java/util/List", "add", "(Ljava/lang/Object;)Z"⟩ yJx4a65c_add_9ea2d wsJx4a65c_add_9ea2d) := goodIn_app (goodIn_of _ (by decide +kernel)) ggX11_cut_Jx4a65c_add_9ea2d
set_option maxRecDepth 20000 in
theorem ggX11_cut_Jx4a65c_size_8abf5 : GoodIn wsX11_cut wsJx4a65c_size_8abf5 := goodIn_r _ [11, 12, 108, 109, 110] (by decide +kernel) (by decide +kernel)
set_option maxRecDepth 20000 in
theorem gX11_cut_Jx4a65c_size_8abf5_f59Jx4a65c : GoodIn wsX11_cut (va_wsF RX11 59 RJx4a65c ⟨"java/util/List", "size", "()I"⟩ yJx4a65c_size_8abf5 wsJx4a65c_size_8abf5) := goodIn_app (goodIn_of _ (by decide +kernel)) ggX11_cut_Jx4a65c_size_8abf5
set_option maxRecDepth 20000 in
theorem ggX11_cut_X11_isWithin : GoodIn wsX11_cut wsX11_isWithin := goodIn_r _ [16] (by decide +kernel) (by decide +kernel)
set_option maxRecDepth 20000 in
theorem gX11_cut_X11_isWithin : GoodIn wsX11_cut (va_wsS RX11 65 yX11_isWithin wsX11_isWithin) := goodIn_app (goodIn_of _ (by decide +kernel)) ggX11_cut_X11_isWithin
set_option maxRecDepth 20000 in
theorem ggX11_cut_X6_init : GoodIn wsX11_cut wsX6_init := goodIn_r _ [19, 20, 21, 22, 23, 24, 25, 26, 27, 28, 29, 30, 99, 100, 101, 102, 103, 104, 105, 106, 107] (by decide +kernel) (by decide +kernel)
set_option maxRecDepth 20000 in
theorem gX11_cut_X6_init : GoodIn wsX11_cut (wsX6_init) := ggX11_cut_X6_init
set_option maxRecDepth 20000 in
theorem ggX11_law_J7_copyOf_59c91 : GoodIn wsX11_law wsJ7_copyOf_59c91 := goodIn_r _ [172, 173, 174, 175, 176, 177, 178, 179, 180, 49, 50, 51, 181, 182, 183, 184] (by decide +kernel) (by decide +kernel)
set_option maxRecDepth 20000 in
theorem gX11_law_J7_copyOf_59c91 : GoodIn wsX11_law (va_wsS RX11 174 yJ7_copyOf_59c91 wsJ7_copyOf_59c91) := goodIn_app (goodIn_of _ (by decide +kernel)) ggX11_law_J7_copyOf_59c91
set_option maxRecDepth 20000 in
theorem ggX11_law_Jx4a65c_add_9ea2d : GoodIn wsX11_law wsJx4a65c_add_9ea2d := goodIn_r _ [196, 197, 198, 199, 24, 200, 201, 202, 22, 203, 204, 205, 206, 207, 208, 209, 210, 211, 212, 213, 214, 50, 215, 216, 217, 218, 219, 220, 221, 222, 223, 224, 225, 226, 227, 171, 228, 229, 230, 231, 232, 233, 234, 235, 236, 237, 180, 49, 51, 181, 182, 183, 184, 261, 262, 263] (by decide +kernel) (by decide +kernel)
set_option maxRecDepth 20000 in
theorem gX11_law_Jx4a65c_add_9ea2d_f86Jx4a65c : GoodIn wsX11_law (va_wsF RX11 86 RJx4a65c ⟨"java/util/List", "add", "(Ljava/lang/Object;)Z"⟩ yJx4a65c_add_9ea2d wsJx4a65c_add_9ea2d) := goodIn_app (goodIn_of _ (by decide +kernel)) ggX11_law_Jx4a65c_add_9ea2d
set_option maxRecDepth 20000 in
theorem ggX11_law_Jx4a65c_size_8abf5 : GoodIn wsX11_law wsJx4a65c_size_8abf5 := goodIn_r _ [23, 24, 261, 262, 263] (by decide +kernel) (by decide +kernel)
set_option maxRecDepth 20000 in
theorem gX11_law_Jx4a65c_size_8abf5_f59Jx4a65c : GoodIn wsX11_law (va_wsF RX11 59 RJx4a65c ⟨"java/util/List", "size", "()I"⟩ yJx4a65c_size_8abf5 wsJx4a65c_size_8abf5) := goodIn_app (goodIn_of _ (by decide +kernel)) ggX11_law_Jx4a65c_size_8abf5
set_option maxRecDepth 20000 in
theorem ggX11_law_X11_isWithin : GoodIn wsX11_law wsX11_isWithin := goodIn_r _ [18] (by decide +kernel) (by decide +kernel)
set_option maxRecDepth 20000 in
theorem gX11_law_X11_isWithin : GoodIn wsX11_law (va_wsS RX11 65 yX11_isWithin wsX11_isWithin) := goodIn_app (goodIn_of _ (by decide +kernel)) ggX11_law_X11_isWithin
set_option maxRecDepth 20000 in
theorem ggX11_law_X4_init : GoodIn wsX11_law wsX4_init := goodIn_r _ [187, 188, 189, 190, 191, 192, 259, 260] (by decide +kernel) (by decide +kernel)
set_option maxRecDepth 20000 in
theorem gX11_law_X4_init : GoodIn wsX11_law (wsX4_init) := ggX11_law_X4_init
set_option maxRecDepth 20000 in
theorem ggX11_law_X5_readText : GoodIn wsX11_law wsX5_readText := goodIn_r _ [29, 30, 31, 32, 33, 34, 35, 36, 37, 38, 39, 40, 41, 42, 43, 44, 45, 46, 47, 48, 49, 50, 51, 52, 53, 54, 55, 56, 57, 58, 59, 60, 61, 62, 63, 64, 65, 66, 67, 28, 68, 69, 70, 71, 72, 73, 74, 75, 76, 77, 78, 79, 80, 81, 82, 83, 84, 85, 86, 87, 88, 89, 90, 91, 92, 93, 94, 95, 96, 97, 98, 99, 100, 101, 102, 103, 104, 105, 106, 107, 108, 109, 110, 111, 112, 113, 114, 115, 116, 117, 118, 119, 120, 121, 122, 123, 124, 125, 126, 127, 128, 129, 130, 131, 132, 133, 134, 135, 136, 137, 138, 139, 140, 141, 142, 143, 144, 145, 146, 147, 148, 149, 150, 151, 152, 153, 154, 155, 156, 157, 158, 159, 160, 161, 162, 163, 164, 165, 166, 167, 168, 254, 255, 256, 257, 258, 264, 265, 266, 267, 268, 252, 253] (by decide +kernel) (by decide +kernel)
set_option maxRecDepth 20000 in
theorem gX11_law_X5_readText : GoodIn wsX11_law (wsV RX11 158 RX5 yX5_readText wsX5_readText) := goodIn_app (goodIn_of _ (by decide +kernel)) ggX11_law_X5_readText
theorem pz_eq0 {v : Int32} (h : 0 ≤ v ∧ v ≤ 0) : v = 0 := Int32.le_antisymm h.2 h.1
set_option maxHeartbeats 8000000 in
set_option maxRecDepth 100000 in
/-- grow(1) of a list that never held anything -/
theorem c_grow0b (l : Launch) (hlt : l.stackTraces = false) (e0 : Nat) (dC : Nat → ClassId) (dI : Nat → Nat → Nat) (sz : Nat) (q : Nat) (md : Int32) : Met l yJx4a65c_grow_92f84 wsJx4a65c_grow_92f84 ({ frames := 1, cells := 1, slots := 10, locals := 14 }) (va_Pc [.ref q, .int 1] (pz_P e0 (dC, dI) [] [(q, .inr (0, [.int md, .ref e0, .int 0]))] sz)) (va_Qr (S := ClassId) (fun _ : ClassId => True) (fun u ra t => va_P (dC, dI) vwCl [(q, .inr (0, [.int md, .ref ra, .int 0])), (ra, .inl (u, 10, .inr (.inr (.inr (.inr (fun _ => none))))))] t.heap ∧ va_D (va_A [(q, .inr (0, [.int md, .ref e0, .int 0]))] sz) [(q, .inr (0, [.int md, .ref ra, .int 0])), (ra, .inl (u, 10, .inr (.inr (.inr (.inr (fun _ => none))))))] ∧ va_K (dC, dI) vwCl [(u, .object "java/lang/Object")] t) (va_A [(q, .inr (0, [.int md, .ref e0, .int 0]))] sz)) 1 10 (va_A [(q, .inr (0, [.int md, .ref e0, .int 0]))] sz) := by
  refine Met.ofW (cc := cJx4a65c_grow_92f84) (maxL := 4) (ret := (some (.array (.object "java/lang/Object")))) (by decide) rfl ?_
  intro p e s m args below meth c s₁ B hml hv
  obtain ⟨rfl, hsz, hP, hK, hD0, hZ, hV, hT⟩ := hv
  have hx := B.exec
  have hb := B.bytes
  have hr := B.returns
  have hts := atoms_spec (ws := wsJx4a65c_grow_92f84) B.pre
  have hown : s.vm.findClass RJx4a65c = some m.cls := findClass_of_methodNamed B.named
  have hlocks := B.notSynchronized
  have hinJx4a65c : ∀ w ∈ wsJx4a65c0, w ∈ wsJx4a65c_grow_92f84 := fun w h => by unfold wsJx4a65c_grow_92f84; simp only [List.mem_cons, List.mem_append, h, or_true, true_or]
  subst hsz
  have hD := hD0.self (sz := s.heap.size)
  generalize hAe : va_A [(q, .inr (0, [.int md, .ref e0, .int 0]))] s.heap.size = A at hD hZ hT ⊢
  have hA : ∀ q : Nat, s.heap.size ≤ q → A q := fun q h => by rw [← hAe]; exact Or.inr h
  have hS : va_S A s.heap s.heap [] := va_S.rf
  have hP : va_P (dC, dI) vwCl [(q, .inr (0, [.int md, .ref e0, .int 0]))] s.heap := hP
  have hl := lv_entry ([.ref q, .int 1]) (n := 4) (Nat.le_of_ble_eq_true rfl)
  rw [lg_entry_eq]
  generalize (lg_sl ([.ref q, .int 1]) ++ List.replicate (4 - (lg_sl ([.ref q, .int 1])).length) Slot.unset).toArray = ls at hl ⊢
  have hl : lv_has ls 4 [(0, .ref q), (1, .int 1)] := hl
  refine lv_aload_n hx hb dJx4a65c_grow_92f84_0 rfl (lv_at hl 0 rfl) ?_
  refine va_get (D := (dC, dI)) (ci := 0) (v := .ref e0) (C := RJx4a65c) (T := TJx4a65c) (N := 3) hx hb hts hinJx4a65c hown hK hP 0 rfl rfl 1 (by decide) (hts (.fieldLink RJx4a65c 9 "java/util/ArrayList" "elementData" "[Ljava/lang/Object;") (by decide +kernel)) (fun _ h9 => h9) rfl dJx4a65c_grow_92f84_1 ?_
  refine va_tlen (v := 0) hx hb hZ.2.1 hS rfl dJx4a65c_grow_92f84_4 ?_
  refine lv_istore_n (lv' := [(2, .int 0), (0, .ref q), (1, .int 1)]) hx hb dJx4a65c_grow_92f84_5 rfl hl (by decide) rfl (fun ls hl => ?_)
  refine lv_iload_n hx hb dJx4a65c_grow_92f84_6 rfl (lv_at hl 0 rfl) ?_
  refine lv_if_gt (tgt := 20) hx hb dJx4a65c_grow_92f84_7 (by decide) (fun c_1 => ?_) (fun c_1 => ?_)
  · exact absurd c_1 (by decide)
  refine lv_aload_n hx hb dJx4a65c_grow_92f84_10 rfl (lv_at hl 1 rfl) ?_
  refine va_get (D := (dC, dI)) (ci := 0) (v := .ref e0) (C := RJx4a65c) (T := TJx4a65c) (N := 3) hx hb hts hinJx4a65c hown hK hP 0 rfl rfl 1 (by decide) (hts (.fieldLink RJx4a65c 9 "java/util/ArrayList" "elementData" "[Ljava/lang/Object;") (by decide +kernel)) (fun _ h9 => h9) rfl dJx4a65c_grow_92f84_11 ?_
  refine va_gets hx hb hZ.1 hS hown (hts (.fieldLink RJx4a65c 39 "java/util/ArrayList" "DEFAULTCAPACITY_EMPTY_ELEMENTDATA" "[Ljava/lang/Object;") (by decide +kernel)) (fun _ h9 => h9) dJx4a65c_grow_92f84_14 ?_
  refine lv_acmp_eq (rx := some e0) (ry := some e0) (tgt := 45) hx hb dJx4a65c_grow_92f84_17 (by decide) (fun c_2 => ?_) (fun c_2 => ?_)
  rotate_left
  · exact absurd rfl c_2
  refine lv_aload_n hx hb dJx4a65c_grow_92f84_45 rfl (lv_at hl 1 rfl) ?_
  refine lv_bipush (v := 10) hx hb dJx4a65c_grow_92f84_46 (by decide) ?_
  refine lv_iload_n hx hb dJx4a65c_grow_92f84_48 rfl (lv_at hl 2 rfl) ?_
  refine va_mmax hx hb (hml.trans hl.1.symm) hown (hts (.methodLink RJx4a65c 79 Lib.Math.max.name) (by decide +kernel)) (hts (.static Lib.Math.max.name) (by decide +kernel)) (hts (.initialized "java/lang/Math") (by decide +kernel)) (hts (.code Lib.Math.max.name Lib.Math.max.code 2 (some .int)) (by decide +kernel)) (Nat.le_of_ble_eq_true rfl) (Nat.le_of_ble_eq_true rfl) (Nat.le_of_ble_eq_true rfl) (Nat.le_of_ble_eq_true rfl) dJx4a65c_grow_92f84_49 ?_
  refine lv_topi (fun x_3 ex_3 => ?_)
  obtain rfl : x_3 = 10 := ex_3.trans (by decide)
  refine va_newq (N' := 10) (C := "java/lang/Object") hx hb hown (hts (.classLink RJx4a65c 7 "java/lang/Object") (by decide +kernel)) hV.2.2.2.2.1 hK hP hD hS hA (by decide) (by decide) (by decide) (Nat.le_of_ble_eq_true rfl) (Nat.le_of_ble_eq_true rfl) dJx4a65c_grow_92f84_52 (fun q_4 cA_5 H hK hP hD hS => ?_)
  have hP : va_P (dC, dI) vwCl [(q, .inr (0, [.int md, .ref e0, .int 0])), (q_4, .inl (cA_5, 10, .inr (.inr (.inr (.inr (fun _ => none))))))] H := hP
  have hD : va_D A [(q, .inr (0, [.int md, .ref e0, .int 0])), (q_4, .inl (cA_5, 10, .inr (.inr (.inr (.inr (fun _ => none))))))] := hD
  have hK : va_K (dC, dI) vwCl [(cA_5, .object "java/lang/Object")] s := hK
  refine lv_dup_x1 hx hb dJx4a65c_grow_92f84_55 rfl rfl ?_
  refine va_put (D := (dC, dI)) (ci := 0) (v := .ref q_4) (ty := .array (.object "java/lang/Object")) (C := RJx4a65c) (T := TJx4a65c) (N := 3) hx hb hts hinJx4a65c tyJx4a65c tyJx4a65c_ok nmJx4a65c hown hK hP hD hS 0 rfl rfl 1 (by decide) (hts (.fieldLink RJx4a65c 9 "java/util/ArrayList" "elementData" "[Ljava/lang/Object;") (by decide +kernel)) (fun _ h9 => h9) rfl (by decide +kernel) rfl rfl (Nat.le_of_ble_eq_true rfl) dJx4a65c_grow_92f84_56 (fun H locs hP hD hS => ?_)
  have hP : va_P (dC, dI) vwCl [(q, .inr (0, [.int md, .ref q_4, .int 0])), (q_4, .inl (cA_5, 10, .inr (.inr (.inr (.inr (fun _ => none))))))] H := hP
  have hD : va_D A [(q, .inr (0, [.int md, .ref q_4, .int 0])), (q_4, .inl (cA_5, 10, .inr (.inr (.inr (.inr (fun _ => none))))))] := hD
  refine W.widen (k := 1) (n := 10) (Nat.le_of_ble_eq_true rfl) (Nat.le_of_ble_eq_true rfl) ?_
  have hP9 := hP.sub (ws' := [(q, .inr (0, [.int md, .ref q_4, .int 0])), (q_4, .inl (cA_5, 10, .inr (.inr (.inr (.inr (fun _ => none))))))]) [0, 1] rfl
  have hD9 := hD.sub (ws' := [(q, .inr (0, [.int md, .ref q_4, .int 0])), (q_4, .inl (cA_5, 10, .inr (.inr (.inr (.inr (fun _ => none))))))]) [0, 1] (by decide) rfl
  have hK9 := hK.sub (tys' := [(cA_5, .object "java/lang/Object")]) [0] rfl
  exact W.aret (v := .ref q_4) hx hb hr (Or.inr ⟨_, rfl⟩) (Or.inr ⟨_, rfl⟩) (fun t ht hW => ⟨⟨cA_5, q_4, rfl, trivial, ⟨(by rw [ht]; exact hP9), hD9, va_K.moved hW.alike hK9⟩⟩, hS.F ht⟩) hS.2.2 dJx4a65c_grow_92f84_59
set_option maxHeartbeats 8000000 in
set_option maxRecDepth 100000 in
/-- grow() of a list that never held anything -/
theorem c_grow0a (l : Launch) (hlt : l.stackTraces = false) (e0 : Nat) (dC : Nat → ClassId) (dI : Nat → Nat → Nat) (sz : Nat) (q : Nat) (md : Int32) : Met l yJx4a65c_grow_d5877 wsJx4a65c_grow_d5877 ({ frames := 2, cells := 1, slots := 10, locals := 37 }) (va_Pc [.ref q] (pz_P e0 (dC, dI) [] [(q, .inr (0, [.int md, .ref e0, .int 0]))] sz)) (va_Qr (S := ClassId) (fun _ : ClassId => True) (fun u ra t => va_P (dC, dI) vwCl [(q, .inr (0, [.int md, .ref ra, .int 0])), (ra, .inl (u, 10, .inr (.inr (.inr (.inr (fun _ => none))))))] t.heap ∧ va_D (va_A [(q, .inr (0, [.int md, .ref e0, .int 0]))] sz) [(q, .inr (0, [.int md, .ref ra, .int 0])), (ra, .inl (u, 10, .inr (.inr (.inr (.inr (fun _ => none))))))] ∧ va_K (dC, dI) vwCl [(u, .object "java/lang/Object")] t) (va_A [(q, .inr (0, [.int md, .ref e0, .int 0]))] sz)) 1 10 (va_A [(q, .inr (0, [.int md, .ref e0, .int 0]))] sz) := by
  refine Met.ofW (cc := cJx4a65c_grow_d5877) (maxL := 1) (ret := (some (.array (.object "java/lang/Object")))) (by decide) rfl ?_
  intro p e s m args below meth c s₁ B hml hv
  obtain ⟨rfl, hsz, hP, hK, hD0, hZ, hV, hT⟩ := hv
  have hx := B.exec
  have hb := B.bytes
  have hr := B.returns
  have hts := atoms_spec (ws := wsJx4a65c_grow_d5877) B.pre
  have hown : s.vm.findClass RJx4a65c = some m.cls := findClass_of_methodNamed B.named
  have hlocks := B.notSynchronized
  have hinJx4a65c : ∀ w ∈ wsJx4a65c0, w ∈ wsJx4a65c_grow_d5877 := fun w h => by unfold wsJx4a65c_grow_d5877; simp only [List.mem_cons, List.mem_append, h, or_true, true_or]
  subst hsz
  have hD := hD0.self (sz := s.heap.size)
  generalize hAe : va_A [(q, .inr (0, [.int md, .ref e0, .int 0]))] s.heap.size = A at hD hZ hT ⊢
  have hA : ∀ q : Nat, s.heap.size ≤ q → A q := fun q h => by rw [← hAe]; exact Or.inr h
  have hS : va_S A s.heap s.heap [] := va_S.rf
  have hP : va_P (dC, dI) vwCl [(q, .inr (0, [.int md, .ref e0, .int 0]))] s.heap := hP
  have hl := lv_entry ([.ref q]) (n := 1) (Nat.le_of_ble_eq_true rfl)
  rw [lg_entry_eq]
  generalize (lg_sl ([.ref q]) ++ List.replicate (1 - (lg_sl ([.ref q])).length) Slot.unset).toArray = ls at hl ⊢
  have hl : lv_has ls 1 [(0, .ref q)] := hl
  refine lv_aload_n hx hb dJx4a65c_grow_d5877_0 rfl (lv_at hl 0 rfl) ?_
  refine lv_aload_n hx hb dJx4a65c_grow_d5877_1 rfl (lv_at hl 0 rfl) ?_
  refine va_get (D := (dC, dI)) (ci := 0) (v := .int 0) (C := RJx4a65c) (T := TJx4a65c) (N := 3) hx hb hts hinJx4a65c hown hK hP 0 rfl rfl 2 (by decide) (hts (.fieldLink RJx4a65c 48 "java/util/ArrayList" "size" "I") (by decide +kernel)) (fun _ h9 => h9) rfl dJx4a65c_grow_d5877_2 ?_
  refine lv_iconst (v := 1) hx hb dJx4a65c_grow_d5877_5 (by decide) ?_
  refine lv_iadd hx hb dJx4a65c_grow_d5877_6 ?_
  refine lv_topi (fun x_1 ex_1 => ?_)
  obtain rfl : x_1 = 1 := ex_1.trans (by decide)
  have hPc := hP.sub (ws' := [(q, .inr (0, [.int md, .ref e0, .int 0]))]) [0] rfl
  have hDc := hD.sub (ws' := [(q, .inr (0, [.int md, .ref e0, .int 0]))]) [0] (by decide) rfl
  have hKc := hK.sub (tys' := []) [] rfl
  have hFc := va_free (wc := [(q, .inr (0, [.int md, .ref e0, .int 0]))]) hD hS hA [0] rfl
  refine va_callr (va_runV (As := [.int 1]) (rest := []) ⟨hx, hb, hml, hown, hts⟩ (c_grow0b l hlt e0 dC dI s.heap.size q md) (cwV 1 hts gJx4a65c_grow_d5877_Jx4a65c_grow_92f84 rfl rfl rfl (by decide +kernel) ⟨Nat.le_of_ble_eq_true rfl, Nat.le_of_ble_eq_true rfl⟩) (pz_preV [.int 1] hPc hDc hKc hZ hV hT hS hFc (va_recv hKc hPc (ci := 0) (q0 := 0) rfl rfl)) rfl rfl hl.1 rfl (lv_room (Nat.le_of_ble_eq_true rfl)) dJx4a65c_grow_d5877_7 ⟨Nat.le_of_ble_eq_true rfl, Nat.le_of_ble_eq_true rfl⟩) hS (fun q _ h => hFc q h) hFc (fun u_3 r_2 t H locs ht hvm hw_4 hB_5 hz1 hk1 hS => ?_)
  obtain ⟨hP1, hD1, hK1⟩ := hB_5
  rw [ht] at hP1
  have hK := (hK.app (va_K.moved hvm.symm hK1))
  obtain ⟨hP, hD⟩ := va_join (wr := []) (w1 := [(q, .inr (0, [.int md, .ref r_2, .int 0])), (r_2, .inl (u_3, 10, .inr (.inr (.inr (.inr (fun _ => none))))))]) hP hD [0] [] rfl rfl (by decide) (by decide) hk1 hFc hP1 hD1
  have hK : va_K (dC, dI) vwCl [(u_3, .object "java/lang/Object")] s := hK
  have hP : va_P (dC, dI) vwCl [(q, .inr (0, [.int md, .ref r_2, .int 0])), (r_2, .inl (u_3, 10, .inr (.inr (.inr (.inr (fun _ => none))))))] H := hP
  have hD : va_D A [(q, .inr (0, [.int md, .ref r_2, .int 0])), (r_2, .inl (u_3, 10, .inr (.inr (.inr (.inr (fun _ => none))))))] := hD
  refine W.widen (k := 1) (n := 10) (Nat.le_of_ble_eq_true rfl) (Nat.le_of_ble_eq_true rfl) ?_
  have hP9 := hP.sub (ws' := [(q, .inr (0, [.int md, .ref r_2, .int 0])), (r_2, .inl (u_3, 10, .inr (.inr (.inr (.inr (fun _ => none))))))]) [0, 1] rfl
  have hD9 := hD.sub (ws' := [(q, .inr (0, [.int md, .ref r_2, .int 0])), (r_2, .inl (u_3, 10, .inr (.inr (.inr (.inr (fun _ => none))))))]) [0, 1] (by decide) rfl
  have hK9 := hK.sub (tys' := [(u_3, .object "java/lang/Object")]) [0] rfl
  exact W.aret (v := .ref r_2) hx hb hr (Or.inr ⟨_, rfl⟩) (Or.inr ⟨_, rfl⟩) (fun t ht hW => ⟨⟨u_3, r_2, rfl, trivial, ⟨(by rw [ht]; exact hP9), hD9, va_K.moved hW.alike hK9⟩⟩, hS.F ht⟩) hS.2.2 dJx4a65c_grow_d5877_10
set_option maxHeartbeats 8000000 in
set_option maxRecDepth 100000 in
/-- add(e, the empty array, 0) -/
theorem c_add0b_X1 (l : Launch) (hlt : l.stackTraces = false) (e0 : Nat) (dC : Nat → ClassId) (dI : Nat → Nat → Nat) (sz : Nat) (q : Nat) (md : Int32) (v : Nat) (vs : List Value) : Met l yJx4a65c_add_72be8 wsJx4a65c_add_72be8 ({ frames := 3, cells := 1, slots := 10, locals := 57 }) (va_Pc [.ref q, .ref v, .ref e0, .int 0] (pz_P e0 (dC, dI) [] [(q, .inr (0, [.int md, .ref e0, .int 0])), (v, .inr (2, vs))] sz)) (va_Qv (S := Nat × ClassId × (Nat → Option Nat)) (fun _ : Nat × ClassId × (Nat → Option Nat) => True) (fun u t => va_P (dC, dI) vwCl [(q, .inr (0, [.int md, .ref u.1, .int 1])), (u.1, .inl (u.2.1, 10, .inr (.inr (.inr (.inr u.2.2))))), (v, .inr (2, vs))] t.heap ∧ va_D (va_A [(q, .inr (0, [.int md, .ref e0, .int 0])), (v, .inr (2, vs))] sz) [(q, .inr (0, [.int md, .ref u.1, .int 1])), (u.1, .inl (u.2.1, 10, .inr (.inr (.inr (.inr u.2.2))))), (v, .inr (2, vs))] ∧ va_K (dC, dI) vwCl [(u.2.1, .object "java/lang/Object")] t) (va_A [(q, .inr (0, [.int md, .ref e0, .int 0])), (v, .inr (2, vs))] sz)) 1 10 (va_A [(q, .inr (0, [.int md, .ref e0, .int 0])), (v, .inr (2, vs))] sz) := by
  refine Met.ofW (cc := cJx4a65c_add_72be8) (maxL := 4) (ret := none) (by decide) rfl ?_
  intro p e s m args below meth c s₁ B hml hv
  obtain ⟨rfl, hsz, hP, hK, hD0, hZ, hV, hT⟩ := hv
  have hx := B.exec
  have hb := B.bytes
  have hr := B.returns
  have hts := atoms_spec (ws := wsJx4a65c_add_72be8) B.pre
  have hown : s.vm.findClass RJx4a65c = some m.cls := findClass_of_methodNamed B.named
  have hlocks := B.notSynchronized
  have hinJx4a65c : ∀ w ∈ wsJx4a65c0, w ∈ wsJx4a65c_add_72be8 := fun w h => by unfold wsJx4a65c_add_72be8; simp only [List.mem_cons, List.mem_append, h, or_true, true_or]
  subst hsz
  have hD := hD0.self (sz := s.heap.size)
  generalize hAe : va_A [(q, .inr (0, [.int md, .ref e0, .int 0])), (v, .inr (2, vs))] s.heap.size = A at hD hZ hT ⊢
  have hA : ∀ q : Nat, s.heap.size ≤ q → A q := fun q h => by rw [← hAe]; exact Or.inr h
  have hS : va_S A s.heap s.heap [] := va_S.rf
  have hP : va_P (dC, dI) vwCl [(q, .inr (0, [.int md, .ref e0, .int 0])), (v, .inr (2, vs))] s.heap := hP
  have hl := lv_entry ([.ref q, .ref v, .ref e0, .int 0]) (n := 4) (Nat.le_of_ble_eq_true rfl)
  rw [lg_entry_eq]
  generalize (lg_sl ([.ref q, .ref v, .ref e0, .int 0]) ++ List.replicate (4 - (lg_sl ([.ref q, .ref v, .ref e0, .int 0])).length) Slot.unset).toArray = ls at hl ⊢
  have hl : lv_has ls 4 [(0, .ref q), (1, .ref v), (2, .ref e0), (3, .int 0)] := hl
  refine lv_iload_n hx hb dJx4a65c_add_72be8_0 rfl (lv_at hl 3 rfl) ?_
  refine lv_aload_n hx hb dJx4a65c_add_72be8_1 rfl (lv_at hl 2 rfl) ?_
  refine va_tlen (v := 0) hx hb hZ.2.1 hS rfl dJx4a65c_add_72be8_2 ?_
  refine lv_icmp_ne (tgt := 11) hx hb dJx4a65c_add_72be8_3 (by decide) (fun c_1 => ?_) (fun c_1 => ?_)
  · exact absurd c_1 (by decide)
  refine lv_aload_n hx hb dJx4a65c_add_72be8_6 rfl (lv_at hl 0 rfl) ?_
  have hPc := hP.sub (ws' := [(q, .inr (0, [.int md, .ref e0, .int 0]))]) [0] rfl
  have hDc := hD.sub (ws' := [(q, .inr (0, [.int md, .ref e0, .int 0]))]) [0] (by decide) rfl
  have hKc := hK.sub (tys' := []) [] rfl
  have hFc := va_free (wc := [(q, .inr (0, [.int md, .ref e0, .int 0]))]) hD hS hA [0] rfl
  refine va_callr (va_runV (As := []) (rest := []) ⟨hx, hb, hml, hown, hts⟩ (c_grow0a l hlt e0 dC dI s.heap.size q md) (cwV 0 hts gJx4a65c_add_72be8_Jx4a65c_grow_d5877 rfl rfl rfl (by decide +kernel) ⟨Nat.le_of_ble_eq_true rfl, Nat.le_of_ble_eq_true rfl⟩) (pz_preV [] hPc hDc hKc hZ hV hT hS hFc (va_recv hKc hPc (ci := 0) (q0 := 0) rfl rfl)) rfl rfl hl.1 rfl (lv_room (Nat.le_of_ble_eq_true rfl)) dJx4a65c_add_72be8_7 ⟨Nat.le_of_ble_eq_true rfl, Nat.le_of_ble_eq_true rfl⟩) hS (fun q _ h => hFc q h) hFc (fun u_3 r_2 t H locs ht hvm hw_4 hB_5 hz1 hk1 hS => ?_)
  obtain ⟨hP1, hD1, hK1⟩ := hB_5
  rw [ht] at hP1
  have hK := (hK.app (va_K.moved hvm.symm hK1))
  obtain ⟨hP, hD⟩ := va_join (wr := [(v, .inr (2, vs))]) (w1 := [(q, .inr (0, [.int md, .ref r_2, .int 0])), (r_2, .inl (u_3, 10, .inr (.inr (.inr (.inr (fun _ => none))))))]) hP hD [0] [1] rfl rfl (by decide) (by decide) hk1 hFc hP1 hD1
  have hK : va_K (dC, dI) vwCl [(u_3, .object "java/lang/Object")] s := hK
  have hP : va_P (dC, dI) vwCl [(v, .inr (2, vs)), (q, .inr (0, [.int md, .ref r_2, .int 0])), (r_2, .inl (u_3, 10, .inr (.inr (.inr (.inr (fun _ => none))))))] H := hP
  have hD : va_D A [(v, .inr (2, vs)), (q, .inr (0, [.int md, .ref r_2, .int 0])), (r_2, .inl (u_3, 10, .inr (.inr (.inr (.inr (fun _ => none))))))] := hD
  refine lv_astore_n (lv' := [(2, .ref r_2), (0, .ref q), (1, .ref v), (3, .int 0)]) hx hb dJx4a65c_add_72be8_10 rfl hl (by decide) rfl (fun ls hl => ?_)
  refine lv_aload_n hx hb dJx4a65c_add_72be8_11 rfl (lv_at hl 0 rfl) ?_
  refine lv_iload_n hx hb dJx4a65c_add_72be8_12 rfl (lv_at hl 3 rfl) ?_
  refine lv_aload_n hx hb dJx4a65c_add_72be8_13 rfl (lv_at hl 2 rfl) ?_
  refine va_astqO (E := "java/lang/Object") hx hb hK hP hD hS 2 0 0 2 rfl rfl hV.2.2.2.2.2.2.1 rfl rfl (pz_inK (by decide)) dJx4a65c_add_72be8_14 (fun H locs hP hD hS => ?_)
  have hP : va_P (dC, dI) vwCl [(v, .inr (2, vs)), (q, .inr (0, [.int md, .ref r_2, .int 0])), (r_2, .inl (u_3, 10, .inr (.inr (.inr (.inr (va_up (fun _ => none) (Int32.toNatClampNeg 0) (some v)))))))] H := hP
  have hD : va_D A [(v, .inr (2, vs)), (q, .inr (0, [.int md, .ref r_2, .int 0])), (r_2, .inl (u_3, 10, .inr (.inr (.inr (.inr (va_up (fun _ => none) (Int32.toNatClampNeg 0) (some v)))))))] := hD
  generalize va_up (fun _ => none) (Int32.toNatClampNeg 0) (some v) = f_6 at hP hD
  refine lv_aload_n hx hb dJx4a65c_add_72be8_15 rfl (lv_at hl 1 rfl) ?_
  refine lv_iload_n hx hb dJx4a65c_add_72be8_16 rfl (lv_at hl 3 rfl) ?_
  refine lv_iconst (v := 1) hx hb dJx4a65c_add_72be8_17 (by decide) ?_
  refine lv_iadd hx hb dJx4a65c_add_72be8_18 ?_
  refine lv_topi (fun x_7 ex_7 => ?_)
  obtain rfl : x_7 = 1 := ex_7.trans (by decide)
  refine va_put (D := (dC, dI)) (ci := 0) (v := .int 1) (ty := .int) (C := RJx4a65c) (T := TJx4a65c) (N := 3) hx hb hts hinJx4a65c tyJx4a65c tyJx4a65c_ok nmJx4a65c hown hK hP hD hS 1 rfl rfl 2 (by decide) (hts (.fieldLink RJx4a65c 48 "java/util/ArrayList" "size" "I") (by decide +kernel)) (fun _ h9 => h9) rfl (by decide +kernel) rfl rfl (Nat.le_of_ble_eq_true rfl) dJx4a65c_add_72be8_19 (fun H locs hP hD hS => ?_)
  have hP : va_P (dC, dI) vwCl [(v, .inr (2, vs)), (q, .inr (0, [.int md, .ref r_2, .int 1])), (r_2, .inl (u_3, 10, .inr (.inr (.inr (.inr f_6)))))] H := hP
  have hD : va_D A [(v, .inr (2, vs)), (q, .inr (0, [.int md, .ref r_2, .int 1])), (r_2, .inl (u_3, 10, .inr (.inr (.inr (.inr f_6)))))] := hD
  refine W.widen (k := 1) (n := 10) (Nat.le_of_ble_eq_true rfl) (Nat.le_of_ble_eq_true rfl) ?_
  have hP9 := hP.sub (ws' := [(q, .inr (0, [.int md, .ref r_2, .int 1])), (r_2, .inl (u_3, 10, .inr (.inr (.inr (.inr f_6))))), (v, .inr (2, vs))]) [1, 2, 0] rfl
  have hD9 := hD.sub (ws' := [(q, .inr (0, [.int md, .ref r_2, .int 1])), (r_2, .inl (u_3, 10, .inr (.inr (.inr (.inr f_6))))), (v, .inr (2, vs))]) [1, 2, 0] (by decide) rfl
  have hK9 := hK.sub (tys' := [(u_3, .object "java/lang/Object")]) [0] rfl
  exact W.vret hx hb hr (fun t ht hW => ⟨⟨(r_2, u_3, f_6), rfl, trivial, ⟨(by rw [ht]; exact hP9), hD9, va_K.moved hW.alike hK9⟩⟩, hS.F ht⟩) hS.2.2 dJx4a65c_add_72be8_22
set_option maxHeartbeats 8000000 in
set_option maxRecDepth 100000 in
/-- add(e) to a list that never held anything -/
theorem c_add0_X1 (l : Launch) (hlt : l.stackTraces = false) (e0 : Nat) (dC : Nat → ClassId) (dI : Nat → Nat → Nat) (sz : Nat) (q : Nat) (md : Int32) (v : Nat) (vs : List Value) : Met l yJx4a65c_add_9ea2d wsJx4a65c_add_9ea2d ({ frames := 4, cells := 1, slots := 10, locals := 80 }) (va_Pc [.ref q, .ref v] (pz_P e0 (dC, dI) [] [(q, .inr (0, [.int md, .ref e0, .int 0])), (v, .inr (2, vs))] sz)) (va_Qi (S := Int32 × Nat × ClassId × (Nat → Option Nat)) (fun (r : Int32) (_ : Int32 × Nat × ClassId × (Nat → Option Nat)) => r = 1) (fun u t => va_P (dC, dI) vwCl [(q, .inr (0, [.int u.1, .ref u.2.1, .int 1])), (u.2.1, .inl (u.2.2.1, 10, .inr (.inr (.inr (.inr u.2.2.2))))), (v, .inr (2, vs))] t.heap ∧ va_D (va_A [(q, .inr (0, [.int md, .ref e0, .int 0])), (v, .inr (2, vs))] sz) [(q, .inr (0, [.int u.1, .ref u.2.1, .int 1])), (u.2.1, .inl (u.2.2.1, 10, .inr (.inr (.inr (.inr u.2.2.2))))), (v, .inr (2, vs))] ∧ va_K (dC, dI) vwCl [(u.2.2.1, .object "java/lang/Object")] t) (va_A [(q, .inr (0, [.int md, .ref e0, .int 0])), (v, .inr (2, vs))] sz)) 1 10 (va_A [(q, .inr (0, [.int md, .ref e0, .int 0])), (v, .inr (2, vs))] sz) := by
  refine Met.ofW (cc := cJx4a65c_add_9ea2d) (maxL := 2) (ret := (some .boolean)) (by decide) rfl ?_
  intro p e s m args below meth c s₁ B hml hv
  obtain ⟨rfl, hsz, hP, hK, hD0, hZ, hV, hT⟩ := hv
  have hx := B.exec
  have hb := B.bytes
  have hr := B.returns
  have hts := atoms_spec (ws := wsJx4a65c_add_9ea2d) B.pre
  have hown : s.vm.findClass RJx4a65c = some m.cls := findClass_of_methodNamed B.named
  have hlocks := B.notSynchronized
  have hinJx4a65c : ∀ w ∈ wsJx4a65c0, w ∈ wsJx4a65c_add_9ea2d := fun w h => by unfold wsJx4a65c_add_9ea2d; simp only [List.mem_cons, List.mem_append, h, or_true, true_or]
  subst hsz
  have hD := hD0.self (sz := s.heap.size)
  generalize hAe : va_A [(q, .inr (0, [.int md, .ref e0, .int 0])), (v, .inr (2, vs))] s.heap.size = A at hD hZ hT ⊢
  have hA : ∀ q : Nat, s.heap.size ≤ q → A q := fun q h => by rw [← hAe]; exact Or.inr h
  have hS : va_S A s.heap s.heap [] := va_S.rf
  have hP : va_P (dC, dI) vwCl [(q, .inr (0, [.int md, .ref e0, .int 0])), (v, .inr (2, vs))] s.heap := hP
  have hl := lv_entry ([.ref q, .ref v]) (n := 2) (Nat.le_of_ble_eq_true rfl)
  rw [lg_entry_eq]
  generalize (lg_sl ([.ref q, .ref v]) ++ List.replicate (2 - (lg_sl ([.ref q, .ref v])).length) Slot.unset).toArray = ls at hl ⊢
  have hl : lv_has ls 2 [(0, .ref q), (1, .ref v)] := hl
  refine lv_aload_n hx hb dJx4a65c_add_9ea2d_0 rfl (lv_at hl 0 rfl) ?_
  refine lv_dup hx hb dJx4a65c_add_9ea2d_1 rfl ?_
  refine va_get (D := (dC, dI)) (ci := 0) (v := .int md) (C := RJx4a65c) (T := TJx4a65c) (N := 3) hx hb hts hinJx4a65c hown hK hP 0 rfl rfl 0 (by decide) (hts (.fieldLink RJx4a65c 63 "java/util/ArrayList" "modCount" "I") (by decide +kernel)) (fun x9 ho9 => u_same (hts (.sameField "java/util/ArrayList" "java/util/AbstractList" "modCount" "I") (by decide +kernel)) x9 ho9) rfl dJx4a65c_add_9ea2d_2 ?_
  refine lv_iconst (v := 1) hx hb dJx4a65c_add_9ea2d_5 (by decide) ?_
  refine lv_iadd hx hb dJx4a65c_add_9ea2d_6 ?_
  refine lv_topi (fun x_1 ex_1 => ?_)
  refine va_put (D := (dC, dI)) (ci := 0) (v := .int x_1) (ty := .int) (C := RJx4a65c) (T := TJx4a65c) (N := 3) hx hb hts hinJx4a65c tyJx4a65c tyJx4a65c_ok nmJx4a65c hown hK hP hD hS 0 rfl rfl 0 (by decide) (hts (.fieldLink RJx4a65c 63 "java/util/ArrayList" "modCount" "I") (by decide +kernel)) (fun x9 ho9 => u_same (hts (.sameField "java/util/ArrayList" "java/util/AbstractList" "modCount" "I") (by decide +kernel)) x9 ho9) rfl (by decide +kernel) rfl rfl (Nat.le_of_ble_eq_true rfl) dJx4a65c_add_9ea2d_7 (fun H locs hP hD hS => ?_)
  have hP : va_P (dC, dI) vwCl [(q, .inr (0, [.int x_1, .ref e0, .int 0])), (v, .inr (2, vs))] H := hP
  have hD : va_D A [(q, .inr (0, [.int x_1, .ref e0, .int 0])), (v, .inr (2, vs))] := hD
  refine lv_aload_n hx hb dJx4a65c_add_9ea2d_10 rfl (lv_at hl 0 rfl) ?_
  refine lv_aload_n hx hb dJx4a65c_add_9ea2d_11 rfl (lv_at hl 1 rfl) ?_
  refine lv_aload_n hx hb dJx4a65c_add_9ea2d_12 rfl (lv_at hl 0 rfl) ?_
  refine va_get (D := (dC, dI)) (ci := 0) (v := .ref e0) (C := RJx4a65c) (T := TJx4a65c) (N := 3) hx hb hts hinJx4a65c hown hK hP 0 rfl rfl 1 (by decide) (hts (.fieldLink RJx4a65c 9 "java/util/ArrayList" "elementData" "[Ljava/lang/Object;") (by decide +kernel)) (fun _ h9 => h9) rfl dJx4a65c_add_9ea2d_13 ?_
  refine lv_aload_n hx hb dJx4a65c_add_9ea2d_16 rfl (lv_at hl 0 rfl) ?_
  refine va_get (D := (dC, dI)) (ci := 0) (v := .int 0) (C := RJx4a65c) (T := TJx4a65c) (N := 3) hx hb hts hinJx4a65c hown hK hP 0 rfl rfl 2 (by decide) (hts (.fieldLink RJx4a65c 48 "java/util/ArrayList" "size" "I") (by decide +kernel)) (fun _ h9 => h9) rfl dJx4a65c_add_9ea2d_17 ?_
  have hPc := hP.sub (ws' := [(q, .inr (0, [.int x_1, .ref e0, .int 0])), (v, .inr (2, vs))]) [0, 1] rfl
  have hDc := hD.sub (ws' := [(q, .inr (0, [.int x_1, .ref e0, .int 0])), (v, .inr (2, vs))]) [0, 1] (by decide) rfl
  have hKc := hK.sub (tys' := []) [] rfl
  have hFc := va_free (wc := [(q, .inr (0, [.int x_1, .ref e0, .int 0])), (v, .inr (2, vs))]) hD hS hA [0, 1] rfl
  refine va_callv (va_runV (As := [.ref v, .ref e0, .int 0]) (rest := []) ⟨hx, hb, hml, hown, hts⟩ (c_add0b_X1 l hlt e0 dC dI H.size q x_1 v vs) (cwV 3 hts gJx4a65c_add_9ea2d_Jx4a65c_add_72be8 rfl rfl rfl (by decide +kernel) ⟨Nat.le_of_ble_eq_true rfl, Nat.le_of_ble_eq_true rfl⟩) (pz_preV [.ref v, .ref e0, .int 0] hPc hDc hKc hZ hV hT hS hFc (va_recv hKc hPc (ci := 0) (q0 := 0) rfl rfl)) rfl rfl hl.1 rfl (lv_room (Nat.le_of_ble_eq_true rfl)) dJx4a65c_add_9ea2d_20 ⟨Nat.le_of_ble_eq_true rfl, Nat.le_of_ble_eq_true rfl⟩) hS (fun q _ h => hFc q h) hFc (fun u_3 t H locs ht hvm hw_4 hB_5 hz1 hk1 hS => ?_)
  obtain ⟨rau_3, cru_3, fru_3⟩ := u_3
  obtain ⟨hP1, hD1, hK1⟩ := hB_5
  rw [ht] at hP1
  have hK := (hK.app (va_K.moved hvm.symm hK1))
  obtain ⟨hP, hD⟩ := va_join (wr := []) (w1 := [(q, .inr (0, [.int x_1, .ref rau_3, .int 1])), (rau_3, .inl (cru_3, 10, .inr (.inr (.inr (.inr fru_3))))), (v, .inr (2, vs))]) hP hD [0, 1] [] rfl rfl (by decide) (by decide) hk1 hFc hP1 hD1
  have hK : va_K (dC, dI) vwCl [(cru_3, .object "java/lang/Object")] s := hK
  have hP : va_P (dC, dI) vwCl [(q, .inr (0, [.int x_1, .ref rau_3, .int 1])), (rau_3, .inl (cru_3, 10, .inr (.inr (.inr (.inr fru_3))))), (v, .inr (2, vs))] H := hP
  have hD : va_D A [(q, .inr (0, [.int x_1, .ref rau_3, .int 1])), (rau_3, .inl (cru_3, 10, .inr (.inr (.inr (.inr fru_3))))), (v, .inr (2, vs))] := hD
  refine lv_iconst (v := 1) hx hb dJx4a65c_add_9ea2d_23 (by decide) ?_
  refine W.widen (k := 1) (n := 10) (Nat.le_of_ble_eq_true rfl) (Nat.le_of_ble_eq_true rfl) ?_
  have hP9 := hP.sub (ws' := [(q, .inr (0, [.int x_1, .ref rau_3, .int 1])), (rau_3, .inl (cru_3, 10, .inr (.inr (.inr (.inr fru_3))))), (v, .inr (2, vs))]) [0, 1, 2] rfl
  have hD9 := hD.sub (ws' := [(q, .inr (0, [.int x_1, .ref rau_3, .int 1])), (rau_3, .inl (cru_3, 10, .inr (.inr (.inr (.inr fru_3))))), (v, .inr (2, vs))]) [0, 1, 2] (by decide) rfl
  have hK9 := hK.sub (tys' := [(cru_3, .object "java/lang/Object")]) [0] rfl
  exact W.zret (v := 1) hx hb hr rfl (fun t ht hW => ⟨⟨1, (x_1, rau_3, cru_3, fru_3), rfl, rfl, ⟨(by rw [ht]; exact hP9), hD9, va_K.moved hW.alike hK9⟩⟩, hS.F ht⟩) hS.2.2 dJx4a65c_add_9ea2d_24
set_option maxHeartbeats 8000000 in
set_option maxRecDepth 100000 in
/-- add(e, the empty array, 0) -/
theorem c_add0b_X4 (l : Launch) (hlt : l.stackTraces = false) (e0 : Nat) (dC : Nat → ClassId) (dI : Nat → Nat → Nat) (sz : Nat) (q : Nat) (md : Int32) (v : Nat) (vs : List Value) : Met l yJx4a65c_add_72be8 wsJx4a65c_add_72be8 ({ frames := 3, cells := 1, slots := 10, locals := 57 }) (va_Pc [.ref q, .ref v, .ref e0, .int 0] (pz_P e0 (dC, dI) [] [(q, .inr (0, [.int md, .ref e0, .int 0])), (v, .inr (5, vs))] sz)) (va_Qv (S := Nat × ClassId × (Nat → Option Nat)) (fun _ : Nat × ClassId × (Nat → Option Nat) => True) (fun u t => va_P (dC, dI) vwCl [(q, .inr (0, [.int md, .ref u.1, .int 1])), (u.1, .inl (u.2.1, 10, .inr (.inr (.inr (.inr u.2.2))))), (v, .inr (5, vs))] t.heap ∧ va_D (va_A [(q, .inr (0, [.int md, .ref e0, .int 0])), (v, .inr (5, vs))] sz) [(q, .inr (0, [.int md, .ref u.1, .int 1])), (u.1, .inl (u.2.1, 10, .inr (.inr (.inr (.inr u.2.2))))), (v, .inr (5, vs))] ∧ va_K (dC, dI) vwCl [(u.2.1, .object "java/lang/Object")] t) (va_A [(q, .inr (0, [.int md, .ref e0, .int 0])), (v, .inr (5, vs))] sz)) 1 10 (va_A [(q, .inr (0, [.int md, .ref e0, .int 0])), (v, .inr (5, vs))] sz) := by
  refine Met.ofW (cc := cJx4a65c_add_72be8) (maxL := 4) (ret := none) (by decide) rfl ?_
  intro p e s m args below meth c s₁ B hml hv
  obtain ⟨rfl, hsz, hP, hK, hD0, hZ, hV, hT⟩ := hv
  have hx := B.exec
  have hb := B.bytes
  have hr := B.returns
  have hts := atoms_spec (ws := wsJx4a65c_add_72be8) B.pre
  have hown : s.vm.findClass RJx4a65c = some m.cls := findClass_of_methodNamed B.named
  have hlocks := B.notSynchronized
  have hinJx4a65c : ∀ w ∈ wsJx4a65c0, w ∈ wsJx4a65c_add_72be8 := fun w h => by unfold wsJx4a65c_add_72be8; simp only [List.mem_cons, List.mem_append, h, or_true, true_or]
  subst hsz
  have hD := hD0.self (sz := s.heap.size)
  generalize hAe : va_A [(q, .inr (0, [.int md, .ref e0, .int 0])), (v, .inr (5, vs))] s.heap.size = A at hD hZ hT ⊢
  have hA : ∀ q : Nat, s.heap.size ≤ q → A q := fun q h => by rw [← hAe]; exact Or.inr h
  have hS : va_S A s.heap s.heap [] := va_S.rf
  have hP : va_P (dC, dI) vwCl [(q, .inr (0, [.int md, .ref e0, .int 0])), (v, .inr (5, vs))] s.heap := hP
  have hl := lv_entry ([.ref q, .ref v, .ref e0, .int 0]) (n := 4) (Nat.le_of_ble_eq_true rfl)
  rw [lg_entry_eq]
  generalize (lg_sl ([.ref q, .ref v, .ref e0, .int 0]) ++ List.replicate (4 - (lg_sl ([.ref q, .ref v, .ref e0, .int 0])).length) Slot.unset).toArray = ls at hl ⊢
  have hl : lv_has ls 4 [(0, .ref q), (1, .ref v), (2, .ref e0), (3, .int 0)] := hl
  refine lv_iload_n hx hb dJx4a65c_add_72be8_0 rfl (lv_at hl 3 rfl) ?_
  refine lv_aload_n hx hb dJx4a65c_add_72be8_1 rfl (lv_at hl 2 rfl) ?_
  refine va_tlen (v := 0) hx hb hZ.2.1 hS rfl dJx4a65c_add_72be8_2 ?_
  refine lv_icmp_ne (tgt := 11) hx hb dJx4a65c_add_72be8_3 (by decide) (fun c_1 => ?_) (fun c_1 => ?_)
  · exact absurd c_1 (by decide)
  refine lv_aload_n hx hb dJx4a65c_add_72be8_6 rfl (lv_at hl 0 rfl) ?_
  have hPc := hP.sub (ws' := [(q, .inr (0, [.int md, .ref e0, .int 0]))]) [0] rfl
  have hDc := hD.sub (ws' := [(q, .inr (0, [.int md, .ref e0, .int 0]))]) [0] (by decide) rfl
  have hKc := hK.sub (tys' := []) [] rfl
  have hFc := va_free (wc := [(q, .inr (0, [.int md, .ref e0, .int 0]))]) hD hS hA [0] rfl
  refine va_callr (va_runV (As := []) (rest := []) ⟨hx, hb, hml, hown, hts⟩ (c_grow0a l hlt e0 dC dI s.heap.size q md) (cwV 0 hts gJx4a65c_add_72be8_Jx4a65c_grow_d5877 rfl rfl rfl (by decide +kernel) ⟨Nat.le_of_ble_eq_true rfl, Nat.le_of_ble_eq_true rfl⟩) (pz_preV [] hPc hDc hKc hZ hV hT hS hFc (va_recv hKc hPc (ci := 0) (q0 := 0) rfl rfl)) rfl rfl hl.1 rfl (lv_room (Nat.le_of_ble_eq_true rfl)) dJx4a65c_add_72be8_7 ⟨Nat.le_of_ble_eq_true rfl, Nat.le_of_ble_eq_true rfl⟩) hS (fun q _ h => hFc q h) hFc (fun u_3 r_2 t H locs ht hvm hw_4 hB_5 hz1 hk1 hS => ?_)
  obtain ⟨hP1, hD1, hK1⟩ := hB_5
  rw [ht] at hP1
  have hK := (hK.app (va_K.moved hvm.symm hK1))
  obtain ⟨hP, hD⟩ := va_join (wr := [(v, .inr (5, vs))]) (w1 := [(q, .inr (0, [.int md, .ref r_2, .int 0])), (r_2, .inl (u_3, 10, .inr (.inr (.inr (.inr (fun _ => none))))))]) hP hD [0] [1] rfl rfl (by decide) (by decide) hk1 hFc hP1 hD1
  have hK : va_K (dC, dI) vwCl [(u_3, .object "java/lang/Object")] s := hK
  have hP : va_P (dC, dI) vwCl [(v, .inr (5, vs)), (q, .inr (0, [.int md, .ref r_2, .int 0])), (r_2, .inl (u_3, 10, .inr (.inr (.inr (.inr (fun _ => none))))))] H := hP
  have hD : va_D A [(v, .inr (5, vs)), (q, .inr (0, [.int md, .ref r_2, .int 0])), (r_2, .inl (u_3, 10, .inr (.inr (.inr (.inr (fun _ => none))))))] := hD
  refine lv_astore_n (lv' := [(2, .ref r_2), (0, .ref q), (1, .ref v), (3, .int 0)]) hx hb dJx4a65c_add_72be8_10 rfl hl (by decide) rfl (fun ls hl => ?_)
  refine lv_aload_n hx hb dJx4a65c_add_72be8_11 rfl (lv_at hl 0 rfl) ?_
  refine lv_iload_n hx hb dJx4a65c_add_72be8_12 rfl (lv_at hl 3 rfl) ?_
  refine lv_aload_n hx hb dJx4a65c_add_72be8_13 rfl (lv_at hl 2 rfl) ?_
  refine va_astqO (E := "java/lang/Object") hx hb hK hP hD hS 2 0 0 5 rfl rfl hV.2.2.2.2.2.2.2.1 rfl rfl (pz_inK (by decide)) dJx4a65c_add_72be8_14 (fun H locs hP hD hS => ?_)
  have hP : va_P (dC, dI) vwCl [(v, .inr (5, vs)), (q, .inr (0, [.int md, .ref r_2, .int 0])), (r_2, .inl (u_3, 10, .inr (.inr (.inr (.inr (va_up (fun _ => none) (Int32.toNatClampNeg 0) (some v)))))))] H := hP
  have hD : va_D A [(v, .inr (5, vs)), (q, .inr (0, [.int md, .ref r_2, .int 0])), (r_2, .inl (u_3, 10, .inr (.inr (.inr (.inr (va_up (fun _ => none) (Int32.toNatClampNeg 0) (some v)))))))] := hD
  generalize va_up (fun _ => none) (Int32.toNatClampNeg 0) (some v) = f_6 at hP hD
  refine lv_aload_n hx hb dJx4a65c_add_72be8_15 rfl (lv_at hl 1 rfl) ?_
  refine lv_iload_n hx hb dJx4a65c_add_72be8_16 rfl (lv_at hl 3 rfl) ?_
  refine lv_iconst (v := 1) hx hb dJx4a65c_add_72be8_17 (by decide) ?_
  refine lv_iadd hx hb dJx4a65c_add_72be8_18 ?_
  refine lv_topi (fun x_7 ex_7 => ?_)
  obtain rfl : x_7 = 1 := ex_7.trans (by decide)
  refine va_put (D := (dC, dI)) (ci := 0) (v := .int 1) (ty := .int) (C := RJx4a65c) (T := TJx4a65c) (N := 3) hx hb hts hinJx4a65c tyJx4a65c tyJx4a65c_ok nmJx4a65c hown hK hP hD hS 1 rfl rfl 2 (by decide) (hts (.fieldLink RJx4a65c 48 "java/util/ArrayList" "size" "I") (by decide +kernel)) (fun _ h9 => h9) rfl (by decide +kernel) rfl rfl (Nat.le_of_ble_eq_true rfl) dJx4a65c_add_72be8_19 (fun H locs hP hD hS => ?_)
  have hP : va_P (dC, dI) vwCl [(v, .inr (5, vs)), (q, .inr (0, [.int md, .ref r_2, .int 1])), (r_2, .inl (u_3, 10, .inr (.inr (.inr (.inr f_6)))))] H := hP
  have hD : va_D A [(v, .inr (5, vs)), (q, .inr (0, [.int md, .ref r_2, .int 1])), (r_2, .inl (u_3, 10, .inr (.inr (.inr (.inr f_6)))))] := hD
  refine W.widen (k := 1) (n := 10) (Nat.le_of_ble_eq_true rfl) (Nat.le_of_ble_eq_true rfl) ?_
  have hP9 := hP.sub (ws' := [(q, .inr (0, [.int md, .ref r_2, .int 1])), (r_2, .inl (u_3, 10, .inr (.inr (.inr (.inr f_6))))), (v, .inr (5, vs))]) [1, 2, 0] rfl
  have hD9 := hD.sub (ws' := [(q, .inr (0, [.int md, .ref r_2, .int 1])), (r_2, .inl (u_3, 10, .inr (.inr (.inr (.inr f_6))))), (v, .inr (5, vs))]) [1, 2, 0] (by decide) rfl
  have hK9 := hK.sub (tys' := [(u_3, .object "java/lang/Object")]) [0] rfl
  exact W.vret hx hb hr (fun t ht hW => ⟨⟨(r_2, u_3, f_6), rfl, trivial, ⟨(by rw [ht]; exact hP9), hD9, va_K.moved hW.alike hK9⟩⟩, hS.F ht⟩) hS.2.2 dJx4a65c_add_72be8_22
set_option maxHeartbeats 8000000 in
set_option maxRecDepth 100000 in
/-- add(e) to a list that never held anything -/
theorem c_add0_X4 (l : Launch) (hlt : l.stackTraces = false) (e0 : Nat) (dC : Nat → ClassId) (dI : Nat → Nat → Nat) (sz : Nat) (q : Nat) (md : Int32) (v : Nat) (vs : List Value) : Met l yJx4a65c_add_9ea2d wsJx4a65c_add_9ea2d ({ frames := 4, cells := 1, slots := 10, locals := 80 }) (va_Pc [.ref q, .ref v] (pz_P e0 (dC, dI) [] [(q, .inr (0, [.int md, .ref e0, .int 0])), (v, .inr (5, vs))] sz)) (va_Qi (S := Int32 × Nat × ClassId × (Nat → Option Nat)) (fun (r : Int32) (_ : Int32 × Nat × ClassId × (Nat → Option Nat)) => r = 1) (fun u t => va_P (dC, dI) vwCl [(q, .inr (0, [.int u.1, .ref u.2.1, .int 1])), (u.2.1, .inl (u.2.2.1, 10, .inr (.inr (.inr (.inr u.2.2.2))))), (v, .inr (5, vs))] t.heap ∧ va_D (va_A [(q, .inr (0, [.int md, .ref e0, .int 0])), (v, .inr (5, vs))] sz) [(q, .inr (0, [.int u.1, .ref u.2.1, .int 1])), (u.2.1, .inl (u.2.2.1, 10, .inr (.inr (.inr (.inr u.2.2.2))))), (v, .inr (5, vs))] ∧ va_K (dC, dI) vwCl [(u.2.2.1, .object "java/lang/Object")] t) (va_A [(q, .inr (0, [.int md, .ref e0, .int 0])), (v, .inr (5, vs))] sz)) 1 10 (va_A [(q, .inr (0, [.int md, .ref e0, .int 0])), (v, .inr (5, vs))] sz) := by
  refine Met.ofW (cc := cJx4a65c_add_9ea2d) (maxL := 2) (ret := (some .boolean)) (by decide) rfl ?_
  intro p e s m args below meth c s₁ B hml hv
  obtain ⟨rfl, hsz, hP, hK, hD0, hZ, hV, hT⟩ := hv
  have hx := B.exec
  have hb := B.bytes
  have hr := B.returns
  have hts := atoms_spec (ws := wsJx4a65c_add_9ea2d) B.pre
  have hown : s.vm.findClass RJx4a65c = some m.cls := findClass_of_methodNamed B.named
  have hlocks := B.notSynchronized
  have hinJx4a65c : ∀ w ∈ wsJx4a65c0, w ∈ wsJx4a65c_add_9ea2d := fun w h => by unfold wsJx4a65c_add_9ea2d; simp only [List.mem_cons, List.mem_append, h, or_true, true_or]
  subst hsz
  have hD := hD0.self (sz := s.heap.size)
  generalize hAe : va_A [(q, .inr (0, [.int md, .ref e0, .int 0])), (v, .inr (5, vs))] s.heap.size = A at hD hZ hT ⊢
  have hA : ∀ q : Nat, s.heap.size ≤ q → A q := fun q h => by rw [← hAe]; exact Or.inr h
  have hS : va_S A s.heap s.heap [] := va_S.rf
  have hP : va_P (dC, dI) vwCl [(q, .inr (0, [.int md, .ref e0, .int 0])), (v, .inr (5, vs))] s.heap := hP
  have hl := lv_entry ([.ref q, .ref v]) (n := 2) (Nat.le_of_ble_eq_true rfl)
  rw [lg_entry_eq]
  generalize (lg_sl ([.ref q, .ref v]) ++ List.replicate (2 - (lg_sl ([.ref q, .ref v])).length) Slot.unset).toArray = ls at hl ⊢
  have hl : lv_has ls 2 [(0, .ref q), (1, .ref v)] := hl
  refine lv_aload_n hx hb dJx4a65c_add_9ea2d_0 rfl (lv_at hl 0 rfl) ?_
  refine lv_dup hx hb dJx4a65c_add_9ea2d_1 rfl ?_
  refine va_get (D := (dC, dI)) (ci := 0) (v := .int md) (C := RJx4a65c) (T := TJx4a65c) (N := 3) hx hb hts hinJx4a65c hown hK hP 0 rfl rfl 0 (by decide) (hts (.fieldLink RJx4a65c 63 "java/util/ArrayList" "modCount" "I") (by decide +kernel)) (fun x9 ho9 => u_same (hts (.sameField "java/util/ArrayList" "java/util/AbstractList" "modCount" "I") (by decide +kernel)) x9 ho9) rfl dJx4a65c_add_9ea2d_2 ?_
  refine lv_iconst (v := 1) hx hb dJx4a65c_add_9ea2d_5 (by decide) ?_
  refine lv_iadd hx hb dJx4a65c_add_9ea2d_6 ?_
  refine lv_topi (fun x_1 ex_1 => ?_)
  refine va_put (D := (dC, dI)) (ci := 0) (v := .int x_1) (ty := .int) (C := RJx4a65c) (T := TJx4a65c) (N := 3) hx hb hts hinJx4a65c tyJx4a65c tyJx4a65c_ok nmJx4a65c hown hK hP hD hS 0 rfl rfl 0 (by decide) (hts (.fieldLink RJx4a65c 63 "java/util/ArrayList" "modCount" "I") (by decide +kernel)) (fun x9 ho9 => u_same (hts (.sameField "java/util/ArrayList" "java/util/AbstractList" "modCount" "I") (by decide +kernel)) x9 ho9) rfl (by decide +kernel) rfl rfl (Nat.le_of_ble_eq_true rfl) dJx4a65c_add_9ea2d_7 (fun H locs hP hD hS => ?_)
  have hP : va_P (dC, dI) vwCl [(q, .inr (0, [.int x_1, .ref e0, .int 0])), (v, .inr (5, vs))] H := hP
  have hD : va_D A [(q, .inr (0, [.int x_1, .ref e0, .int 0])), (v, .inr (5, vs))] := hD
  refine lv_aload_n hx hb dJx4a65c_add_9ea2d_10 rfl (lv_at hl 0 rfl) ?_
  refine lv_aload_n hx hb dJx4a65c_add_9ea2d_11 rfl (lv_at hl 1 rfl) ?_
  refine lv_aload_n hx hb dJx4a65c_add_9ea2d_12 rfl (lv_at hl 0 rfl) ?_
  refine va_get (D := (dC, dI)) (ci := 0) (v := .ref e0) (C := RJx4a65c) (T := TJx4a65c) (N := 3) hx hb hts hinJx4a65c hown hK hP 0 rfl rfl 1 (by decide) (hts (.fieldLink RJx4a65c 9 "java/util/ArrayList" "elementData" "[Ljava/lang/Object;") (by decide +kernel)) (fun _ h9 => h9) rfl dJx4a65c_add_9ea2d_13 ?_
  refine lv_aload_n hx hb dJx4a65c_add_9ea2d_16 rfl (lv_at hl 0 rfl) ?_
  refine va_get (D := (dC, dI)) (ci := 0) (v := .int 0) (C := RJx4a65c) (T := TJx4a65c) (N := 3) hx hb hts hinJx4a65c hown hK hP 0 rfl rfl 2 (by decide) (hts (.fieldLink RJx4a65c 48 "java/util/ArrayList" "size" "I") (by decide +kernel)) (fun _ h9 => h9) rfl dJx4a65c_add_9ea2d_17 ?_
  have hPc := hP.sub (ws' := [(q, .inr (0, [.int x_1, .ref e0, .int 0])), (v, .inr (5, vs))]) [0, 1] rfl
  have hDc := hD.sub (ws' := [(q, .inr (0, [.int x_1, .ref e0, .int 0])), (v, .inr (5, vs))]) [0, 1] (by decide) rfl
  have hKc := hK.sub (tys' := []) [] rfl
  have hFc := va_free (wc := [(q, .inr (0, [.int x_1, .ref e0, .int 0])), (v, .inr (5, vs))]) hD hS hA [0, 1] rfl
  refine va_callv (va_runV (As := [.ref v, .ref e0, .int 0]) (rest := []) ⟨hx, hb, hml, hown, hts⟩ (c_add0b_X4 l hlt e0 dC dI H.size q x_1 v vs) (cwV 3 hts gJx4a65c_add_9ea2d_Jx4a65c_add_72be8 rfl rfl rfl (by decide +kernel) ⟨Nat.le_of_ble_eq_true rfl, Nat.le_of_ble_eq_true rfl⟩) (pz_preV [.ref v, .ref e0, .int 0] hPc hDc hKc hZ hV hT hS hFc (va_recv hKc hPc (ci := 0) (q0 := 0) rfl rfl)) rfl rfl hl.1 rfl (lv_room (Nat.le_of_ble_eq_true rfl)) dJx4a65c_add_9ea2d_20 ⟨Nat.le_of_ble_eq_true rfl, Nat.le_of_ble_eq_true rfl⟩) hS (fun q _ h => hFc q h) hFc (fun u_3 t H locs ht hvm hw_4 hB_5 hz1 hk1 hS => ?_)
  obtain ⟨rau_3, cru_3, fru_3⟩ := u_3
  obtain ⟨hP1, hD1, hK1⟩ := hB_5
  rw [ht] at hP1
  have hK := (hK.app (va_K.moved hvm.symm hK1))
  obtain ⟨hP, hD⟩ := va_join (wr := []) (w1 := [(q, .inr (0, [.int x_1, .ref rau_3, .int 1])), (rau_3, .inl (cru_3, 10, .inr (.inr (.inr (.inr fru_3))))), (v, .inr (5, vs))]) hP hD [0, 1] [] rfl rfl (by decide) (by decide) hk1 hFc hP1 hD1
  have hK : va_K (dC, dI) vwCl [(cru_3, .object "java/lang/Object")] s := hK
  have hP : va_P (dC, dI) vwCl [(q, .inr (0, [.int x_1, .ref rau_3, .int 1])), (rau_3, .inl (cru_3, 10, .inr (.inr (.inr (.inr fru_3))))), (v, .inr (5, vs))] H := hP
  have hD : va_D A [(q, .inr (0, [.int x_1, .ref rau_3, .int 1])), (rau_3, .inl (cru_3, 10, .inr (.inr (.inr (.inr fru_3))))), (v, .inr (5, vs))] := hD
  refine lv_iconst (v := 1) hx hb dJx4a65c_add_9ea2d_23 (by decide) ?_
  refine W.widen (k := 1) (n := 10) (Nat.le_of_ble_eq_true rfl) (Nat.le_of_ble_eq_true rfl) ?_
  have hP9 := hP.sub (ws' := [(q, .inr (0, [.int x_1, .ref rau_3, .int 1])), (rau_3, .inl (cru_3, 10, .inr (.inr (.inr (.inr fru_3))))), (v, .inr (5, vs))]) [0, 1, 2] rfl
  have hD9 := hD.sub (ws' := [(q, .inr (0, [.int x_1, .ref rau_3, .int 1])), (rau_3, .inl (cru_3, 10, .inr (.inr (.inr (.inr fru_3))))), (v, .inr (5, vs))]) [0, 1, 2] (by decide) rfl
  have hK9 := hK.sub (tys' := [(cru_3, .object "java/lang/Object")]) [0] rfl
  exact W.zret (v := 1) hx hb hr rfl (fun t ht hW => ⟨⟨1, (x_1, rau_3, cru_3, fru_3), rfl, rfl, ⟨(by rw [ht]; exact hP9), hD9, va_K.moved hW.alike hK9⟩⟩, hS.F ht⟩) hS.2.2 dJx4a65c_add_9ea2d_24
set_option maxHeartbeats 8000000 in
set_option maxRecDepth 100000 in
/-- add(e, the empty array, 0) -/
theorem c_add0b_X6 (l : Launch) (hlt : l.stackTraces = false) (e0 : Nat) (dC : Nat → ClassId) (dI : Nat → Nat → Nat) (sz : Nat) (q : Nat) (md : Int32) (v : Nat) (vs : List Value) : Met l yJx4a65c_add_72be8 wsJx4a65c_add_72be8 ({ frames := 3, cells := 1, slots := 10, locals := 57 }) (va_Pc [.ref q, .ref v, .ref e0, .int 0] (pz_P e0 (dC, dI) [] [(q, .inr (0, [.int md, .ref e0, .int 0])), (v, .inr (7, vs))] sz)) (va_Qv (S := Nat × ClassId × (Nat → Option Nat)) (fun _ : Nat × ClassId × (Nat → Option Nat) => True) (fun u t => va_P (dC, dI) vwCl [(q, .inr (0, [.int md, .ref u.1, .int 1])), (u.1, .inl (u.2.1, 10, .inr (.inr (.inr (.inr u.2.2))))), (v, .inr (7, vs))] t.heap ∧ va_D (va_A [(q, .inr (0, [.int md, .ref e0, .int 0])), (v, .inr (7, vs))] sz) [(q, .inr (0, [.int md, .ref u.1, .int 1])), (u.1, .inl (u.2.1, 10, .inr (.inr (.inr (.inr u.2.2))))), (v, .inr (7, vs))] ∧ va_K (dC, dI) vwCl [(u.2.1, .object "java/lang/Object")] t) (va_A [(q, .inr (0, [.int md, .ref e0, .int 0])), (v, .inr (7, vs))] sz)) 1 10 (va_A [(q, .inr (0, [.int md, .ref e0, .int 0])), (v, .inr (7, vs))] sz) := by
  refine Met.ofW (cc := cJx4a65c_add_72be8) (maxL := 4) (ret := none) (by decide) rfl ?_
  intro p e s m args below meth c s₁ B hml hv
  obtain ⟨rfl, hsz, hP, hK, hD0, hZ, hV, hT⟩ := hv
  have hx := B.exec
  have hb := B.bytes
  have hr := B.returns
  have hts := atoms_spec (ws := wsJx4a65c_add_72be8) B.pre
  have hown : s.vm.findClass RJx4a65c = some m.cls := findClass_of_methodNamed B.named
  have hlocks := B.notSynchronized
  have hinJx4a65c : ∀ w ∈ wsJx4a65c0, w ∈ wsJx4a65c_add_72be8 := fun w h => by unfold wsJx4a65c_add_72be8; simp only [List.mem_cons, List.mem_append, h, or_true, true_or]
  subst hsz
  have hD := hD0.self (sz := s.heap.size)
  generalize hAe : va_A [(q, .inr (0, [.int md, .ref e0, .int 0])), (v, .inr (7, vs))] s.heap.size = A at hD hZ hT ⊢
  have hA : ∀ q : Nat, s.heap.size ≤ q → A q := fun q h => by rw [← hAe]; exact Or.inr h
  have hS : va_S A s.heap s.heap [] := va_S.rf
  have hP : va_P (dC, dI) vwCl [(q, .inr (0, [.int md, .ref e0, .int 0])), (v, .inr (7, vs))] s.heap := hP
  have hl := lv_entry ([.ref q, .ref v, .ref e0, .int 0]) (n := 4) (Nat.le_of_ble_eq_true rfl)
  rw [lg_entry_eq]
  generalize (lg_sl ([.ref q, .ref v, .ref e0, .int 0]) ++ List.replicate (4 - (lg_sl ([.ref q, .ref v, .ref e0, .int 0])).length) Slot.unset).toArray = ls at hl ⊢
  have hl : lv_has ls 4 [(0, .ref q), (1, .ref v), (2, .ref e0), (3, .int 0)] := hl
  refine lv_iload_n hx hb dJx4a65c_add_72be8_0 rfl (lv_at hl 3 rfl) ?_
  refine lv_aload_n hx hb dJx4a65c_add_72be8_1 rfl (lv_at hl 2 rfl) ?_
  refine va_tlen (v := 0) hx hb hZ.2.1 hS rfl dJx4a65c_add_72be8_2 ?_
  refine lv_icmp_ne (tgt := 11) hx hb dJx4a65c_add_72be8_3 (by decide) (fun c_1 => ?_) (fun c_1 => ?_)
  · exact absurd c_1 (by decide)
  refine lv_aload_n hx hb dJx4a65c_add_72be8_6 rfl (lv_at hl 0 rfl) ?_
  have hPc := hP.sub (ws' := [(q, .inr (0, [.int md, .ref e0, .int 0]))]) [0] rfl
  have hDc := hD.sub (ws' := [(q, .inr (0, [.int md, .ref e0, .int 0]))]) [0] (by decide) rfl
  have hKc := hK.sub (tys' := []) [] rfl
  have hFc := va_free (wc := [(q, .inr (0, [.int md, .ref e0, .int 0]))]) hD hS hA [0] rfl
  refine va_callr (va_runV (As := []) (rest := []) ⟨hx, hb, hml, hown, hts⟩ (c_grow0a l hlt e0 dC dI s.heap.size q md) (cwV 0 hts gJx4a65c_add_72be8_Jx4a65c_grow_d5877 rfl rfl rfl (by decide +kernel) ⟨Nat.le_of_ble_eq_true rfl, Nat.le_of_ble_eq_true rfl⟩) (pz_preV [] hPc hDc hKc hZ hV hT hS hFc (va_recv hKc hPc (ci := 0) (q0 := 0) rfl rfl)) rfl rfl hl.1 rfl (lv_room (Nat.le_of_ble_eq_true rfl)) dJx4a65c_add_72be8_7 ⟨Nat.le_of_ble_eq_true rfl, Nat.le_of_ble_eq_true rfl⟩) hS (fun q _ h => hFc q h) hFc (fun u_3 r_2 t H locs ht hvm hw_4 hB_5 hz1 hk1 hS => ?_)
  obtain ⟨hP1, hD1, hK1⟩ := hB_5
  rw [ht] at hP1
  have hK := (hK.app (va_K.moved hvm.symm hK1))
  obtain ⟨hP, hD⟩ := va_join (wr := [(v, .inr (7, vs))]) (w1 := [(q, .inr (0, [.int md, .ref r_2, .int 0])), (r_2, .inl (u_3, 10, .inr (.inr (.inr (.inr (fun _ => none))))))]) hP hD [0] [1] rfl rfl (by decide) (by decide) hk1 hFc hP1 hD1
  have hK : va_K (dC, dI) vwCl [(u_3, .object "java/lang/Object")] s := hK
  have hP : va_P (dC, dI) vwCl [(v, .inr (7, vs)), (q, .inr (0, [.int md, .ref r_2, .int 0])), (r_2, .inl (u_3, 10, .inr (.inr (.inr (.inr (fun _ => none))))))] H := hP
  have hD : va_D A [(v, .inr (7, vs)), (q, .inr (0, [.int md, .ref r_2, .int 0])), (r_2, .inl (u_3, 10, .inr (.inr (.inr (.inr (fun _ => none))))))] := hD
  refine lv_astore_n (lv' := [(2, .ref r_2), (0, .ref q), (1, .ref v), (3, .int 0)]) hx hb dJx4a65c_add_72be8_10 rfl hl (by decide) rfl (fun ls hl => ?_)
  refine lv_aload_n hx hb dJx4a65c_add_72be8_11 rfl (lv_at hl 0 rfl) ?_
  refine lv_iload_n hx hb dJx4a65c_add_72be8_12 rfl (lv_at hl 3 rfl) ?_
  refine lv_aload_n hx hb dJx4a65c_add_72be8_13 rfl (lv_at hl 2 rfl) ?_
  refine va_astqO (E := "java/lang/Object") hx hb hK hP hD hS 2 0 0 7 rfl rfl hV.2.2.2.2.2.2.2.2.1 rfl rfl (pz_inK (by decide)) dJx4a65c_add_72be8_14 (fun H locs hP hD hS => ?_)
  have hP : va_P (dC, dI) vwCl [(v, .inr (7, vs)), (q, .inr (0, [.int md, .ref r_2, .int 0])), (r_2, .inl (u_3, 10, .inr (.inr (.inr (.inr (va_up (fun _ => none) (Int32.toNatClampNeg 0) (some v)))))))] H := hP
  have hD : va_D A [(v, .inr (7, vs)), (q, .inr (0, [.int md, .ref r_2, .int 0])), (r_2, .inl (u_3, 10, .inr (.inr (.inr (.inr (va_up (fun _ => none) (Int32.toNatClampNeg 0) (some v)))))))] := hD
  generalize va_up (fun _ => none) (Int32.toNatClampNeg 0) (some v) = f_6 at hP hD
  refine lv_aload_n hx hb dJx4a65c_add_72be8_15 rfl (lv_at hl 1 rfl) ?_
  refine lv_iload_n hx hb dJx4a65c_add_72be8_16 rfl (lv_at hl 3 rfl) ?_
  refine lv_iconst (v := 1) hx hb dJx4a65c_add_72be8_17 (by decide) ?_
  refine lv_iadd hx hb dJx4a65c_add_72be8_18 ?_
  refine lv_topi (fun x_7 ex_7 => ?_)
  obtain rfl : x_7 = 1 := ex_7.trans (by decide)
  refine va_put (D := (dC, dI)) (ci := 0) (v := .int 1) (ty := .int) (C := RJx4a65c) (T := TJx4a65c) (N := 3) hx hb hts hinJx4a65c tyJx4a65c tyJx4a65c_ok nmJx4a65c hown hK hP hD hS 1 rfl rfl 2 (by decide) (hts (.fieldLink RJx4a65c 48 "java/util/ArrayList" "size" "I") (by decide +kernel)) (fun _ h9 => h9) rfl (by decide +kernel) rfl rfl (Nat.le_of_ble_eq_true rfl) dJx4a65c_add_72be8_19 (fun H locs hP hD hS => ?_)
  have hP : va_P (dC, dI) vwCl [(v, .inr (7, vs)), (q, .inr (0, [.int md, .ref r_2, .int 1])), (r_2, .inl (u_3, 10, .inr (.inr (.inr (.inr f_6)))))] H := hP
  have hD : va_D A [(v, .inr (7, vs)), (q, .inr (0, [.int md, .ref r_2, .int 1])), (r_2, .inl (u_3, 10, .inr (.inr (.inr (.inr f_6)))))] := hD
  refine W.widen (k := 1) (n := 10) (Nat.le_of_ble_eq_true rfl) (Nat.le_of_ble_eq_true rfl) ?_
  have hP9 := hP.sub (ws' := [(q, .inr (0, [.int md, .ref r_2, .int 1])), (r_2, .inl (u_3, 10, .inr (.inr (.inr (.inr f_6))))), (v, .inr (7, vs))]) [1, 2, 0] rfl
  have hD9 := hD.sub (ws' := [(q, .inr (0, [.int md, .ref r_2, .int 1])), (r_2, .inl (u_3, 10, .inr (.inr (.inr (.inr f_6))))), (v, .inr (7, vs))]) [1, 2, 0] (by decide) rfl
  have hK9 := hK.sub (tys' := [(u_3, .object "java/lang/Object")]) [0] rfl
  exact W.vret hx hb hr (fun t ht hW => ⟨⟨(r_2, u_3, f_6), rfl, trivial, ⟨(by rw [ht]; exact hP9), hD9, va_K.moved hW.alike hK9⟩⟩, hS.F ht⟩) hS.2.2 dJx4a65c_add_72be8_22
set_option maxHeartbeats 8000000 in
set_option maxRecDepth 100000 in
/-- add(e) to a list that never held anything -/
theorem c_add0_X6 (l : Launch) (hlt : l.stackTraces = false) (e0 : Nat) (dC : Nat → ClassId) (dI : Nat → Nat → Nat) (sz : Nat) (q : Nat) (md : Int32) (v : Nat) (vs : List Value) : Met l yJx4a65c_add_9ea2d wsJx4a65c_add_9ea2d ({ frames := 4, cells := 1, slots := 10, locals := 80 }) (va_Pc [.ref q, .ref v] (pz_P e0 (dC, dI) [] [(q, .inr (0, [.int md, .ref e0, .int 0])), (v, .inr (7, vs))] sz)) (va_Qi (S := Int32 × Nat × ClassId × (Nat → Option Nat)) (fun (r : Int32) (_ : Int32 × Nat × ClassId × (Nat → Option Nat)) => r = 1) (fun u t => va_P (dC, dI) vwCl [(q, .inr (0, [.int u.1, .ref u.2.1, .int 1])), (u.2.1, .inl (u.2.2.1, 10, .inr (.inr (.inr (.inr u.2.2.2))))), (v, .inr (7, vs))] t.heap ∧ va_D (va_A [(q, .inr (0, [.int md, .ref e0, .int 0])), (v, .inr (7, vs))] sz) [(q, .inr (0, [.int u.1, .ref u.2.1, .int 1])), (u.2.1, .inl (u.2.2.1, 10, .inr (.inr (.inr (.inr u.2.2.2))))), (v, .inr (7, vs))] ∧ va_K (dC, dI) vwCl [(u.2.2.1, .object "java/lang/Object")] t) (va_A [(q, .inr (0, [.int md, .ref e0, .int 0])), (v, .inr (7, vs))] sz)) 1 10 (va_A [(q, .inr (0, [.int md, .ref e0, .int 0])), (v, .inr (7, vs))] sz) := by
  refine Met.ofW (cc := cJx4a65c_add_9ea2d) (maxL := 2) (ret := (some .boolean)) (by decide) rfl ?_
  intro p e s m args below meth c s₁ B hml hv
  obtain ⟨rfl, hsz, hP, hK, hD0, hZ, hV, hT⟩ := hv
  have hx := B.exec
  have hb := B.bytes
  have hr := B.returns
  have hts := atoms_spec (ws := wsJx4a65c_add_9ea2d) B.pre
  have hown : s.vm.findClass RJx4a65c = some m.cls := findClass_of_methodNamed B.named
  have hlocks := B.notSynchronized
  have hinJx4a65c : ∀ w ∈ wsJx4a65c0, w ∈ wsJx4a65c_add_9ea2d := fun w h => by unfold wsJx4a65c_add_9ea2d; simp only [List.mem_cons, List.mem_append, h, or_true, true_or]
  subst hsz
  have hD := hD0.self (sz := s.heap.size)
  generalize hAe : va_A [(q, .inr (0, [.int md, .ref e0, .int 0])), (v, .inr (7, vs))] s.heap.size = A at hD hZ hT ⊢
  have hA : ∀ q : Nat, s.heap.size ≤ q → A q := fun q h => by rw [← hAe]; exact Or.inr h
  have hS : va_S A s.heap s.heap [] := va_S.rf
  have hP : va_P (dC, dI) vwCl [(q, .inr (0, [.int md, .ref e0, .int 0])), (v, .inr (7, vs))] s.heap := hP
  have hl := lv_entry ([.ref q, .ref v]) (n := 2) (Nat.le_of_ble_eq_true rfl)
  rw [lg_entry_eq]
  generalize (lg_sl ([.ref q, .ref v]) ++ List.replicate (2 - (lg_sl ([.ref q, .ref v])).length) Slot.unset).toArray = ls at hl ⊢
  have hl : lv_has ls 2 [(0, .ref q), (1, .ref v)] := hl
  refine lv_aload_n hx hb dJx4a65c_add_9ea2d_0 rfl (lv_at hl 0 rfl) ?_
  refine lv_dup hx hb dJx4a65c_add_9ea2d_1 rfl ?_
  refine va_get (D := (dC, dI)) (ci := 0) (v := .int md) (C := RJx4a65c) (T := TJx4a65c) (N := 3) hx hb hts hinJx4a65c hown hK hP 0 rfl rfl 0 (by decide) (hts (.fieldLink RJx4a65c 63 "java/util/ArrayList" "modCount" "I") (by decide +kernel)) (fun x9 ho9 => u_same (hts (.sameField "java/util/ArrayList" "java/util/AbstractList" "modCount" "I") (by decide +kernel)) x9 ho9) rfl dJx4a65c_add_9ea2d_2 ?_
  refine lv_iconst (v := 1) hx hb dJx4a65c_add_9ea2d_5 (by decide) ?_
  refine lv_iadd hx hb dJx4a65c_add_9ea2d_6 ?_
  refine lv_topi (fun x_1 ex_1 => ?_)
  refine va_put (D := (dC, dI)) (ci := 0) (v := .int x_1) (ty := .int) (C := RJx4a65c) (T := TJx4a65c) (N := 3) hx hb hts hinJx4a65c tyJx4a65c tyJx4a65c_ok nmJx4a65c hown hK hP hD hS 0 rfl rfl 0 (by decide) (hts (.fieldLink RJx4a65c 63 "java/util/ArrayList" "modCount" "I") (by decide +kernel)) (fun x9 ho9 => u_same (hts (.sameField "java/util/ArrayList" "java/util/AbstractList" "modCount" "I") (by decide +kernel)) x9 ho9) rfl (by decide +kernel) rfl rfl (Nat.le_of_ble_eq_true rfl) dJx4a65c_add_9ea2d_7 (fun H locs hP hD hS => ?_)
  have hP : va_P (dC, dI) vwCl [(q, .inr (0, [.int x_1, .ref e0, .int 0])), (v, .inr (7, vs))] H := hP
  have hD : va_D A [(q, .inr (0, [.int x_1, .ref e0, .int 0])), (v, .inr (7, vs))] := hD
  refine lv_aload_n hx hb dJx4a65c_add_9ea2d_10 rfl (lv_at hl 0 rfl) ?_
  refine lv_aload_n hx hb dJx4a65c_add_9ea2d_11 rfl (lv_at hl 1 rfl) ?_
  refine lv_aload_n hx hb dJx4a65c_add_9ea2d_12 rfl (lv_at hl 0 rfl) ?_
  refine va_get (D := (dC, dI)) (ci := 0) (v := .ref e0) (C := RJx4a65c) (T := TJx4a65c) (N := 3) hx hb hts hinJx4a65c hown hK hP 0 rfl rfl 1 (by decide) (hts (.fieldLink RJx4a65c 9 "java/util/ArrayList" "elementData" "[Ljava/lang/Object;") (by decide +kernel)) (fun _ h9 => h9) rfl dJx4a65c_add_9ea2d_13 ?_
  refine lv_aload_n hx hb dJx4a65c_add_9ea2d_16 rfl (lv_at hl 0 rfl) ?_
  refine va_get (D := (dC, dI)) (ci := 0) (v := .int 0) (C := RJx4a65c) (T := TJx4a65c) (N := 3) hx hb hts hinJx4a65c hown hK hP 0 rfl rfl 2 (by decide) (hts (.fieldLink RJx4a65c 48 "java/util/ArrayList" "size" "I") (by decide +kernel)) (fun _ h9 => h9) rfl dJx4a65c_add_9ea2d_17 ?_
  have hPc := hP.sub (ws' := [(q, .inr (0, [.int x_1, .ref e0, .int 0])), (v, .inr (7, vs))]) [0, 1] rfl
  have hDc := hD.sub (ws' := [(q, .inr (0, [.int x_1, .ref e0, .int 0])), (v, .inr (7, vs))]) [0, 1] (by decide) rfl
  have hKc := hK.sub (tys' := []) [] rfl
  have hFc := va_free (wc := [(q, .inr (0, [.int x_1, .ref e0, .int 0])), (v, .inr (7, vs))]) hD hS hA [0, 1] rfl
  refine va_callv (va_runV (As := [.ref v, .ref e0, .int 0]) (rest := []) ⟨hx, hb, hml, hown, hts⟩ (c_add0b_X6 l hlt e0 dC dI H.size q x_1 v vs) (cwV 3 hts gJx4a65c_add_9ea2d_Jx4a65c_add_72be8 rfl rfl rfl (by decide +kernel) ⟨Nat.le_of_ble_eq_true rfl, Nat.le_of_ble_eq_true rfl⟩) (pz_preV [.ref v, .ref e0, .int 0] hPc hDc hKc hZ hV hT hS hFc (va_recv hKc hPc (ci := 0) (q0 := 0) rfl rfl)) rfl rfl hl.1 rfl (lv_room (Nat.le_of_ble_eq_true rfl)) dJx4a65c_add_9ea2d_20 ⟨Nat.le_of_ble_eq_true rfl, Nat.le_of_ble_eq_true rfl⟩) hS (fun q _ h => hFc q h) hFc (fun u_3 t H locs ht hvm hw_4 hB_5 hz1 hk1 hS => ?_)
  obtain ⟨rau_3, cru_3, fru_3⟩ := u_3
  obtain ⟨hP1, hD1, hK1⟩ := hB_5
  rw [ht] at hP1
  have hK := (hK.app (va_K.moved hvm.symm hK1))
  obtain ⟨hP, hD⟩ := va_join (wr := []) (w1 := [(q, .inr (0, [.int x_1, .ref rau_3, .int 1])), (rau_3, .inl (cru_3, 10, .inr (.inr (.inr (.inr fru_3))))), (v, .inr (7, vs))]) hP hD [0, 1] [] rfl rfl (by decide) (by decide) hk1 hFc hP1 hD1
  have hK : va_K (dC, dI) vwCl [(cru_3, .object "java/lang/Object")] s := hK
  have hP : va_P (dC, dI) vwCl [(q, .inr (0, [.int x_1, .ref rau_3, .int 1])), (rau_3, .inl (cru_3, 10, .inr (.inr (.inr (.inr fru_3))))), (v, .inr (7, vs))] H := hP
  have hD : va_D A [(q, .inr (0, [.int x_1, .ref rau_3, .int 1])), (rau_3, .inl (cru_3, 10, .inr (.inr (.inr (.inr fru_3))))), (v, .inr (7, vs))] := hD
  refine lv_iconst (v := 1) hx hb dJx4a65c_add_9ea2d_23 (by decide) ?_
  refine W.widen (k := 1) (n := 10) (Nat.le_of_ble_eq_true rfl) (Nat.le_of_ble_eq_true rfl) ?_
  have hP9 := hP.sub (ws' := [(q, .inr (0, [.int x_1, .ref rau_3, .int 1])), (rau_3, .inl (cru_3, 10, .inr (.inr (.inr (.inr fru_3))))), (v, .inr (7, vs))]) [0, 1, 2] rfl
  have hD9 := hD.sub (ws' := [(q, .inr (0, [.int x_1, .ref rau_3, .int 1])), (rau_3, .inl (cru_3, 10, .inr (.inr (.inr (.inr fru_3))))), (v, .inr (7, vs))]) [0, 1, 2] (by decide) rfl
  have hK9 := hK.sub (tys' := [(cru_3, .object "java/lang/Object")]) [0] rfl
  exact W.zret (v := 1) hx hb hr rfl (fun t ht hW => ⟨⟨1, (x_1, rau_3, cru_3, fru_3), rfl, rfl, ⟨(by rw [ht]; exact hP9), hD9, va_K.moved hW.alike hK9⟩⟩, hS.F ht⟩) hS.2.2 dJx4a65c_add_9ea2d_24
set_option maxHeartbeats 8000000 in
set_option maxRecDepth 100000 in
/-- add(e, the empty array, 0) -/
theorem c_add0b_X8 (l : Launch) (hlt : l.stackTraces = false) (e0 : Nat) (dC : Nat → ClassId) (dI : Nat → Nat → Nat) (sz : Nat) (q : Nat) (md : Int32) (v : Nat) (vs : List Value) : Met l yJx4a65c_add_72be8 wsJx4a65c_add_72be8 ({ frames := 3, cells := 1, slots := 10, locals := 57 }) (va_Pc [.ref q, .ref v, .ref e0, .int 0] (pz_P e0 (dC, dI) [] [(q, .inr (0, [.int md, .ref e0, .int 0])), (v, .inr (9, vs))] sz)) (va_Qv (S := Nat × ClassId × (Nat → Option Nat)) (fun _ : Nat × ClassId × (Nat → Option Nat) => True) (fun u t => va_P (dC, dI) vwCl [(q, .inr (0, [.int md, .ref u.1, .int 1])), (u.1, .inl (u.2.1, 10, .inr (.inr (.inr (.inr u.2.2))))), (v, .inr (9, vs))] t.heap ∧ va_D (va_A [(q, .inr (0, [.int md, .ref e0, .int 0])), (v, .inr (9, vs))] sz) [(q, .inr (0, [.int md, .ref u.1, .int 1])), (u.1, .inl (u.2.1, 10, .inr (.inr (.inr (.inr u.2.2))))), (v, .inr (9, vs))] ∧ va_K (dC, dI) vwCl [(u.2.1, .object "java/lang/Object")] t) (va_A [(q, .inr (0, [.int md, .ref e0, .int 0])), (v, .inr (9, vs))] sz)) 1 10 (va_A [(q, .inr (0, [.int md, .ref e0, .int 0])), (v, .inr (9, vs))] sz) := by
  refine Met.ofW (cc := cJx4a65c_add_72be8) (maxL := 4) (ret := none) (by decide) rfl ?_
  intro p e s m args below meth c s₁ B hml hv
  obtain ⟨rfl, hsz, hP, hK, hD0, hZ, hV, hT⟩ := hv
  have hx := B.exec
  have hb := B.bytes
  have hr := B.returns
  have hts := atoms_spec (ws := wsJx4a65c_add_72be8) B.pre
  have hown : s.vm.findClass RJx4a65c = some m.cls := findClass_of_methodNamed B.named
  have hlocks := B.notSynchronized
  have hinJx4a65c : ∀ w ∈ wsJx4a65c0, w ∈ wsJx4a65c_add_72be8 := fun w h => by unfold wsJx4a65c_add_72be8; simp only [List.mem_cons, List.mem_append, h, or_true, true_or]
  subst hsz
  have hD := hD0.self (sz := s.heap.size)
  generalize hAe : va_A [(q, .inr (0, [.int md, .ref e0, .int 0])), (v, .inr (9, vs))] s.heap.size = A at hD hZ hT ⊢
  have hA : ∀ q : Nat, s.heap.size ≤ q → A q := fun q h => by rw [← hAe]; exact Or.inr h
  have hS : va_S A s.heap s.heap [] := va_S.rf
  have hP : va_P (dC, dI) vwCl [(q, .inr (0, [.int md, .ref e0, .int 0])), (v, .inr (9, vs))] s.heap := hP
  have hl := lv_entry ([.ref q, .ref v, .ref e0, .int 0]) (n := 4) (Nat.le_of_ble_eq_true rfl)
  rw [lg_entry_eq]
  generalize (lg_sl ([.ref q, .ref v, .ref e0, .int 0]) ++ List.replicate (4 - (lg_sl ([.ref q, .ref v, .ref e0, .int 0])).length) Slot.unset).toArray = ls at hl ⊢
  have hl : lv_has ls 4 [(0, .ref q), (1, .ref v), (2, .ref e0), (3, .int 0)] := hl
  refine lv_iload_n hx hb dJx4a65c_add_72be8_0 rfl (lv_at hl 3 rfl) ?_
  refine lv_aload_n hx hb dJx4a65c_add_72be8_1 rfl (lv_at hl 2 rfl) ?_
  refine va_tlen (v := 0) hx hb hZ.2.1 hS rfl dJx4a65c_add_72be8_2 ?_
  refine lv_icmp_ne (tgt := 11) hx hb dJx4a65c_add_72be8_3 (by decide) (fun c_1 => ?_) (fun c_1 => ?_)
  · exact absurd c_1 (by decide)
  refine lv_aload_n hx hb dJx4a65c_add_72be8_6 rfl (lv_at hl 0 rfl) ?_
  have hPc := hP.sub (ws' := [(q, .inr (0, [.int md, .ref e0, .int 0]))]) [0] rfl
  have hDc := hD.sub (ws' := [(q, .inr (0, [.int md, .ref e0, .int 0]))]) [0] (by decide) rfl
  have hKc := hK.sub (tys' := []) [] rfl
  have hFc := va_free (wc := [(q, .inr (0, [.int md, .ref e0, .int 0]))]) hD hS hA [0] rfl
  refine va_callr (va_runV (As := []) (rest := []) ⟨hx, hb, hml, hown, hts⟩ (c_grow0a l hlt e0 dC dI s.heap.size q md) (cwV 0 hts gJx4a65c_add_72be8_Jx4a65c_grow_d5877 rfl rfl rfl (by decide +kernel) ⟨Nat.le_of_ble_eq_true rfl, Nat.le_of_ble_eq_true rfl⟩) (pz_preV [] hPc hDc hKc hZ hV hT hS hFc (va_recv hKc hPc (ci := 0) (q0 := 0) rfl rfl)) rfl rfl hl.1 rfl (lv_room (Nat.le_of_ble_eq_true rfl)) dJx4a65c_add_72be8_7 ⟨Nat.le_of_ble_eq_true rfl, Nat.le_of_ble_eq_true rfl⟩) hS (fun q _ h => hFc q h) hFc (fun u_3 r_2 t H locs ht hvm hw_4 hB_5 hz1 hk1 hS => ?_)
  obtain ⟨hP1, hD1, hK1⟩ := hB_5
  rw [ht] at hP1
  have hK := (hK.app (va_K.moved hvm.symm hK1))
  obtain ⟨hP, hD⟩ := va_join (wr := [(v, .inr (9, vs))]) (w1 := [(q, .inr (0, [.int md, .ref r_2, .int 0])), (r_2, .inl (u_3, 10, .inr (.inr (.inr (.inr (fun _ => none))))))]) hP hD [0] [1] rfl rfl (by decide) (by decide) hk1 hFc hP1 hD1
  have hK : va_K (dC, dI) vwCl [(u_3, .object "java/lang/Object")] s := hK
  have hP : va_P (dC, dI) vwCl [(v, .inr (9, vs)), (q, .inr (0, [.int md, .ref r_2, .int 0])), (r_2, .inl (u_3, 10, .inr (.inr (.inr (.inr (fun _ => none))))))] H := hP
  have hD : va_D A [(v, .inr (9, vs)), (q, .inr (0, [.int md, .ref r_2, .int 0])), (r_2, .inl (u_3, 10, .inr (.inr (.inr (.inr (fun _ => none))))))] := hD
  refine lv_astore_n (lv' := [(2, .ref r_2), (0, .ref q), (1, .ref v), (3, .int 0)]) hx hb dJx4a65c_add_72be8_10 rfl hl (by decide) rfl (fun ls hl => ?_)
  refine lv_aload_n hx hb dJx4a65c_add_72be8_11 rfl (lv_at hl 0 rfl) ?_
  refine lv_iload_n hx hb dJx4a65c_add_72be8_12 rfl (lv_at hl 3 rfl) ?_
  refine lv_aload_n hx hb dJx4a65c_add_72be8_13 rfl (lv_at hl 2 rfl) ?_
  refine va_astqO (E := "java/lang/Object") hx hb hK hP hD hS 2 0 0 9 rfl rfl hV.2.2.2.2.2.2.2.2.2.1 rfl rfl (pz_inK (by decide)) dJx4a65c_add_72be8_14 (fun H locs hP hD hS => ?_)
  have hP : va_P (dC, dI) vwCl [(v, .inr (9, vs)), (q, .inr (0, [.int md, .ref r_2, .int 0])), (r_2, .inl (u_3, 10, .inr (.inr (.inr (.inr (va_up (fun _ => none) (Int32.toNatClampNeg 0) (some v)))))))] H := hP
  have hD : va_D A [(v, .inr (9, vs)), (q, .inr (0, [.int md, .ref r_2, .int 0])), (r_2, .inl (u_3, 10, .inr (.inr (.inr (.inr (va_up (fun _ => none) (Int32.toNatClampNeg 0) (some v)))))))] := hD
  generalize va_up (fun _ => none) (Int32.toNatClampNeg 0) (some v) = f_6 at hP hD
  refine lv_aload_n hx hb dJx4a65c_add_72be8_15 rfl (lv_at hl 1 rfl) ?_
  refine lv_iload_n hx hb dJx4a65c_add_72be8_16 rfl (lv_at hl 3 rfl) ?_
  refine lv_iconst (v := 1) hx hb dJx4a65c_add_72be8_17 (by decide) ?_
  refine lv_iadd hx hb dJx4a65c_add_72be8_18 ?_
  refine lv_topi (fun x_7 ex_7 => ?_)
  obtain rfl : x_7 = 1 := ex_7.trans (by decide)
  refine va_put (D := (dC, dI)) (ci := 0) (v := .int 1) (ty := .int) (C := RJx4a65c) (T := TJx4a65c) (N := 3) hx hb hts hinJx4a65c tyJx4a65c tyJx4a65c_ok nmJx4a65c hown hK hP hD hS 1 rfl rfl 2 (by decide) (hts (.fieldLink RJx4a65c 48 "java/util/ArrayList" "size" "I") (by decide +kernel)) (fun _ h9 => h9) rfl (by decide +kernel) rfl rfl (Nat.le_of_ble_eq_true rfl) dJx4a65c_add_72be8_19 (fun H locs hP hD hS => ?_)
  have hP : va_P (dC, dI) vwCl [(v, .inr (9, vs)), (q, .inr (0, [.int md, .ref r_2, .int 1])), (r_2, .inl (u_3, 10, .inr (.inr (.inr (.inr f_6)))))] H := hP
  have hD : va_D A [(v, .inr (9, vs)), (q, .inr (0, [.int md, .ref r_2, .int 1])), (r_2, .inl (u_3, 10, .inr (.inr (.inr (.inr f_6)))))] := hD
  refine W.widen (k := 1) (n := 10) (Nat.le_of_ble_eq_true rfl) (Nat.le_of_ble_eq_true rfl) ?_
  have hP9 := hP.sub (ws' := [(q, .inr (0, [.int md, .ref r_2, .int 1])), (r_2, .inl (u_3, 10, .inr (.inr (.inr (.inr f_6))))), (v, .inr (9, vs))]) [1, 2, 0] rfl
  have hD9 := hD.sub (ws' := [(q, .inr (0, [.int md, .ref r_2, .int 1])), (r_2, .inl (u_3, 10, .inr (.inr (.inr (.inr f_6))))), (v, .inr (9, vs))]) [1, 2, 0] (by decide) rfl
  have hK9 := hK.sub (tys' := [(u_3, .object "java/lang/Object")]) [0] rfl
  exact W.vret hx hb hr (fun t ht hW => ⟨⟨(r_2, u_3, f_6), rfl, trivial, ⟨(by rw [ht]; exact hP9), hD9, va_K.moved hW.alike hK9⟩⟩, hS.F ht⟩) hS.2.2 dJx4a65c_add_72be8_22
set_option maxHeartbeats 8000000 in
set_option maxRecDepth 100000 in
/-- add(e) to a list that never held anything -/
theorem c_add0_X8 (l : Launch) (hlt : l.stackTraces = false) (e0 : Nat) (dC : Nat → ClassId) (dI : Nat → Nat → Nat) (sz : Nat) (q : Nat) (md : Int32) (v : Nat) (vs : List Value) : Met l yJx4a65c_add_9ea2d wsJx4a65c_add_9ea2d ({ frames := 4, cells := 1, slots := 10, locals := 80 }) (va_Pc [.ref q, .ref v] (pz_P e0 (dC, dI) [] [(q, .inr (0, [.int md, .ref e0, .int 0])), (v, .inr (9, vs))] sz)) (va_Qi (S := Int32 × Nat × ClassId × (Nat → Option Nat)) (fun (r : Int32) (_ : Int32 × Nat × ClassId × (Nat → Option Nat)) => r = 1) (fun u t => va_P (dC, dI) vwCl [(q, .inr (0, [.int u.1, .ref u.2.1, .int 1])), (u.2.1, .inl (u.2.2.1, 10, .inr (.inr (.inr (.inr u.2.2.2))))), (v, .inr (9, vs))] t.heap ∧ va_D (va_A [(q, .inr (0, [.int md, .ref e0, .int 0])), (v, .inr (9, vs))] sz) [(q, .inr (0, [.int u.1, .ref u.2.1, .int 1])), (u.2.1, .inl (u.2.2.1, 10, .inr (.inr (.inr (.inr u.2.2.2))))), (v, .inr (9, vs))] ∧ va_K (dC, dI) vwCl [(u.2.2.1, .object "java/lang/Object")] t) (va_A [(q, .inr (0, [.int md, .ref e0, .int 0])), (v, .inr (9, vs))] sz)) 1 10 (va_A [(q, .inr (0, [.int md, .ref e0, .int 0])), (v, .inr (9, vs))] sz) := by
  refine Met.ofW (cc := cJx4a65c_add_9ea2d) (maxL := 2) (ret := (some .boolean)) (by decide) rfl ?_
  intro p e s m args below meth c s₁ B hml hv
  obtain ⟨rfl, hsz, hP, hK, hD0, hZ, hV, hT⟩ := hv
  have hx := B.exec
  have hb := B.bytes
  have hr := B.returns
  have hts := atoms_spec (ws := wsJx4a65c_add_9ea2d) B.pre
  have hown : s.vm.findClass RJx4a65c = some m.cls := findClass_of_methodNamed B.named
  have hlocks := B.notSynchronized
  have hinJx4a65c : ∀ w ∈ wsJx4a65c0, w ∈ wsJx4a65c_add_9ea2d := fun w h => by unfold wsJx4a65c_add_9ea2d; simp only [List.mem_cons, List.mem_append, h, or_true, true_or]
  subst hsz
  have hD := hD0.self (sz := s.heap.size)
  generalize hAe : va_A [(q, .inr (0, [.int md, .ref e0, .int 0])), (v, .inr (9, vs))] s.heap.size = A at hD hZ hT ⊢
  have hA : ∀ q : Nat, s.heap.size ≤ q → A q := fun q h => by rw [← hAe]; exact Or.inr h
  have hS : va_S A s.heap s.heap [] := va_S.rf
  have hP : va_P (dC, dI) vwCl [(q, .inr (0, [.int md, .ref e0, .int 0])), (v, .inr (9, vs))] s.heap := hP
  have hl := lv_entry ([.ref q, .ref v]) (n := 2) (Nat.le_of_ble_eq_true rfl)
  rw [lg_entry_eq]
  generalize (lg_sl ([.ref q, .ref v]) ++ List.replicate (2 - (lg_sl ([.ref q, .ref v])).length) Slot.unset).toArray = ls at hl ⊢
  have hl : lv_has ls 2 [(0, .ref q), (1, .ref v)] := hl
  refine lv_aload_n hx hb dJx4a65c_add_9ea2d_0 rfl (lv_at hl 0 rfl) ?_
  refine lv_dup hx hb dJx4a65c_add_9ea2d_1 rfl ?_
  refine va_get (D := (dC, dI)) (ci := 0) (v := .int md) (C := RJx4a65c) (T := TJx4a65c) (N := 3) hx hb hts hinJx4a65c hown hK hP 0 rfl rfl 0 (by decide) (hts (.fieldLink RJx4a65c 63 "java/util/ArrayList" "modCount" "I") (by decide +kernel)) (fun x9 ho9 => u_same (hts (.sameField "java/util/ArrayList" "java/util/AbstractList" "modCount" "I") (by decide +kernel)) x9 ho9) rfl dJx4a65c_add_9ea2d_2 ?_
  refine lv_iconst (v := 1) hx hb dJx4a65c_add_9ea2d_5 (by decide) ?_
  refine lv_iadd hx hb dJx4a65c_add_9ea2d_6 ?_
  refine lv_topi (fun x_1 ex_1 => ?_)
  refine va_put (D := (dC, dI)) (ci := 0) (v := .int x_1) (ty := .int) (C := RJx4a65c) (T := TJx4a65c) (N := 3) hx hb hts hinJx4a65c tyJx4a65c tyJx4a65c_ok nmJx4a65c hown hK hP hD hS 0 rfl rfl 0 (by decide) (hts (.fieldLink RJx4a65c 63 "java/util/ArrayList" "modCount" "I") (by decide +kernel)) (fun x9 ho9 => u_same (hts (.sameField "java/util/ArrayList" "java/util/AbstractList" "modCount" "I") (by decide +kernel)) x9 ho9) rfl (by decide +kernel) rfl rfl (Nat.le_of_ble_eq_true rfl) dJx4a65c_add_9ea2d_7 (fun H locs hP hD hS => ?_)
  have hP : va_P (dC, dI) vwCl [(q, .inr (0, [.int x_1, .ref e0, .int 0])), (v, .inr (9, vs))] H := hP
  have hD : va_D A [(q, .inr (0, [.int x_1, .ref e0, .int 0])), (v, .inr (9, vs))] := hD
  refine lv_aload_n hx hb dJx4a65c_add_9ea2d_10 rfl (lv_at hl 0 rfl) ?_
  refine lv_aload_n hx hb dJx4a65c_add_9ea2d_11 rfl (lv_at hl 1 rfl) ?_
  refine lv_aload_n hx hb dJx4a65c_add_9ea2d_12 rfl (lv_at hl 0 rfl) ?_
  refine va_get (D := (dC, dI)) (ci := 0) (v := .ref e0) (C := RJx4a65c) (T := TJx4a65c) (N := 3) hx hb hts hinJx4a65c hown hK hP 0 rfl rfl 1 (by decide) (hts (.fieldLink RJx4a65c 9 "java/util/ArrayList" "elementData" "[Ljava/lang/Object;") (by decide +kernel)) (fun _ h9 => h9) rfl dJx4a65c_add_9ea2d_13 ?_
  refine lv_aload_n hx hb dJx4a65c_add_9ea2d_16 rfl (lv_at hl 0 rfl) ?_
  refine va_get (D := (dC, dI)) (ci := 0) (v := .int 0) (C := RJx4a65c) (T := TJx4a65c) (N := 3) hx hb hts hinJx4a65c hown hK hP 0 rfl rfl 2 (by decide) (hts (.fieldLink RJx4a65c 48 "java/util/ArrayList" "size" "I") (by decide +kernel)) (fun _ h9 => h9) rfl dJx4a65c_add_9ea2d_17 ?_
  have hPc := hP.sub (ws' := [(q, .inr (0, [.int x_1, .ref e0, .int 0])), (v, .inr (9, vs))]) [0, 1] rfl
  have hDc := hD.sub (ws' := [(q, .inr (0, [.int x_1, .ref e0, .int 0])), (v, .inr (9, vs))]) [0, 1] (by decide) rfl
  have hKc := hK.sub (tys' := []) [] rfl
  have hFc := va_free (wc := [(q, .inr (0, [.int x_1, .ref e0, .int 0])), (v, .inr (9, vs))]) hD hS hA [0, 1] rfl
  refine va_callv (va_runV (As := [.ref v, .ref e0, .int 0]) (rest := []) ⟨hx, hb, hml, hown, hts⟩ (c_add0b_X8 l hlt e0 dC dI H.size q x_1 v vs) (cwV 3 hts gJx4a65c_add_9ea2d_Jx4a65c_add_72be8 rfl rfl rfl (by decide +kernel) ⟨Nat.le_of_ble_eq_true rfl, Nat.le_of_ble_eq_true rfl⟩) (pz_preV [.ref v, .ref e0, .int 0] hPc hDc hKc hZ hV hT hS hFc (va_recv hKc hPc (ci := 0) (q0 := 0) rfl rfl)) rfl rfl hl.1 rfl (lv_room (Nat.le_of_ble_eq_true rfl)) dJx4a65c_add_9ea2d_20 ⟨Nat.le_of_ble_eq_true rfl, Nat.le_of_ble_eq_true rfl⟩) hS (fun q _ h => hFc q h) hFc (fun u_3 t H locs ht hvm hw_4 hB_5 hz1 hk1 hS => ?_)
  obtain ⟨rau_3, cru_3, fru_3⟩ := u_3
  obtain ⟨hP1, hD1, hK1⟩ := hB_5
  rw [ht] at hP1
  have hK := (hK.app (va_K.moved hvm.symm hK1))
  obtain ⟨hP, hD⟩ := va_join (wr := []) (w1 := [(q, .inr (0, [.int x_1, .ref rau_3, .int 1])), (rau_3, .inl (cru_3, 10, .inr (.inr (.inr (.inr fru_3))))), (v, .inr (9, vs))]) hP hD [0, 1] [] rfl rfl (by decide) (by decide) hk1 hFc hP1 hD1
  have hK : va_K (dC, dI) vwCl [(cru_3, .object "java/lang/Object")] s := hK
  have hP : va_P (dC, dI) vwCl [(q, .inr (0, [.int x_1, .ref rau_3, .int 1])), (rau_3, .inl (cru_3, 10, .inr (.inr (.inr (.inr fru_3))))), (v, .inr (9, vs))] H := hP
  have hD : va_D A [(q, .inr (0, [.int x_1, .ref rau_3, .int 1])), (rau_3, .inl (cru_3, 10, .inr (.inr (.inr (.inr fru_3))))), (v, .inr (9, vs))] := hD
  refine lv_iconst (v := 1) hx hb dJx4a65c_add_9ea2d_23 (by decide) ?_
  refine W.widen (k := 1) (n := 10) (Nat.le_of_ble_eq_true rfl) (Nat.le_of_ble_eq_true rfl) ?_
  have hP9 := hP.sub (ws' := [(q, .inr (0, [.int x_1, .ref rau_3, .int 1])), (rau_3, .inl (cru_3, 10, .inr (.inr (.inr (.inr fru_3))))), (v, .inr (9, vs))]) [0, 1, 2] rfl
  have hD9 := hD.sub (ws' := [(q, .inr (0, [.int x_1, .ref rau_3, .int 1])), (rau_3, .inl (cru_3, 10, .inr (.inr (.inr (.inr fru_3))))), (v, .inr (9, vs))]) [0, 1, 2] (by decide) rfl
  have hK9 := hK.sub (tys' := [(cru_3, .object "java/lang/Object")]) [0] rfl
  exact W.zret (v := 1) hx hb hr rfl (fun t ht hW => ⟨⟨1, (x_1, rau_3, cru_3, fru_3), rfl, rfl, ⟨(by rw [ht]; exact hP9), hD9, va_K.moved hW.alike hK9⟩⟩, hS.F ht⟩) hS.2.2 dJx4a65c_add_9ea2d_24
set_option maxHeartbeats 8000000 in
set_option maxRecDepth 100000 in
/-- Log(..) -/
theorem c_X6_init (l : Launch) (hlt : l.stackTraces = false) (e0 : Nat) (dC : Nat → ClassId) (dI : Nat → Nat → Nat) (sz : Nat) (q : Nat) (p0 p1 p2 p3 : Int32) : Met l yX6_init wsX6_init ({ frames := 1, cells := 0, slots := 0, locals := 12 }) (va_Pc [.ref q, .int p0, .int p1, .int p2, .int p3] (pz_P e0 (dC, dI) [] [(q, .inr (7, [.int 0, .int 0, .int 0, .int 0, .int 0, .int 0, .int 0, .int 0, .int 0]))] sz)) (va_Qv (S := Unit) (fun _ : Unit => True) (fun u t => va_P (dC, dI) vwCl [(q, .inr (7, [.int p0, .int p1, .int p2, .int p3, .int 0, .int (-1), .int (-1), .int 0, .int (-1)]))] t.heap ∧ va_D (va_A [(q, .inr (7, [.int 0, .int 0, .int 0, .int 0, .int 0, .int 0, .int 0, .int 0, .int 0]))] sz) [(q, .inr (7, [.int p0, .int p1, .int p2, .int p3, .int 0, .int (-1), .int (-1), .int 0, .int (-1)]))]) (va_A [(q, .inr (7, [.int 0, .int 0, .int 0, .int 0, .int 0, .int 0, .int 0, .int 0, .int 0]))] sz)) 0 0 (va_A [(q, .inr (7, [.int 0, .int 0, .int 0, .int 0, .int 0, .int 0, .int 0, .int 0, .int 0]))] sz) := by
  refine Met.ofW (cc := cX6_init) (maxL := 5) (ret := none) (by decide) rfl ?_
  intro p e s m args below meth c s₁ B hml hv
  obtain ⟨rfl, hsz, hP, hK, hD0, hZ, hV, hT⟩ := hv
  have hx := B.exec
  have hb := B.bytes
  have hr := B.returns
  have hts := atoms_spec (ws := wsX6_init) B.pre
  have hown : s.vm.findClass RX6 = some m.cls := findClass_of_methodNamed B.named
  have hlocks := B.notSynchronized
  have hin : meth.name = "<init>" := (name_of_methodNamed B.named B.method).1
  have hinX6 : ∀ w ∈ wsX60, w ∈ wsX6_init := fun w h => by unfold wsX6_init; simp only [List.mem_cons, List.mem_append, h, or_true, true_or]
  subst hsz
  have hD := hD0.self (sz := s.heap.size)
  generalize hAe : va_A [(q, .inr (7, [.int 0, .int 0, .int 0, .int 0, .int 0, .int 0, .int 0, .int 0, .int 0]))] s.heap.size = A at hD hZ hT ⊢
  have hA : ∀ q : Nat, s.heap.size ≤ q → A q := fun q h => by rw [← hAe]; exact Or.inr h
  have hS : va_S A s.heap s.heap [] := va_S.rf
  have hP : va_P (dC, dI) vwCl [(q, .inr (7, [.int 0, .int 0, .int 0, .int 0, .int 0, .int 0, .int 0, .int 0, .int 0]))] s.heap := hP
  have hl := lv_entry ([.ref q, .int p0, .int p1, .int p2, .int p3]) (n := 5) (Nat.le_of_ble_eq_true rfl)
  rw [lg_entry_eq]
  generalize (lg_sl ([.ref q, .int p0, .int p1, .int p2, .int p3]) ++ List.replicate (5 - (lg_sl ([.ref q, .int p0, .int p1, .int p2, .int p3])).length) Slot.unset).toArray = ls at hl ⊢
  have hl : lv_has ls 5 [(0, .ref q), (1, .int p0), (2, .int p1), (3, .int p2), (4, .int p3)] := hl
  refine lv_aload_n hx hb dX6_init_0 rfl (lv_at hl 0 rfl) ?_
  refine W.objInit hx hb hown (hts (.methodLink RX6 3 objectInit) (by decide +kernel)) (hts (.instanceMethod objectInit) (by decide +kernel)) (hts (.code objectInit ⟨#[0xb1]⟩ 1 none) (by decide +kernel)) rfl (by rw [hml]; exact hl.1) rfl dX6_init_1 (Nat.le_of_ble_eq_true rfl) (Nat.le_of_ble_eq_true rfl) ?_
  refine W.eq (g2 := F0 m 4 ls []) rfl ?_
  refine lv_aload_n hx hb dX6_init_4 rfl (lv_at hl 0 rfl) ?_
  refine lv_iload_n hx hb dX6_init_5 rfl (lv_at hl 1 rfl) ?_
  refine va_putF (D := (dC, dI)) (ci := 7) (v := .int p0) (ty := .int) (C := RX6) (T := TX6) (N := 9) hx hb hts hinX6 tyX6 tyX6_ok nmX6 hown hK hP hD hS 0 rfl rfl 0 (by decide) (hts (.fieldLink RX6 9 "LogRiver$Log" "number" "I") (by decide +kernel)) (fun _ h9 => h9) rfl hin rfl (by decide +kernel) rfl rfl (Nat.le_of_ble_eq_true rfl) dX6_init_6 (fun H locs hP hD hS => ?_)
  have hP : va_P (dC, dI) vwCl [(q, .inr (7, [.int p0, .int 0, .int 0, .int 0, .int 0, .int 0, .int 0, .int 0, .int 0]))] H := hP
  have hD : va_D A [(q, .inr (7, [.int p0, .int 0, .int 0, .int 0, .int 0, .int 0, .int 0, .int 0, .int 0]))] := hD
  refine lv_aload_n hx hb dX6_init_9 rfl (lv_at hl 0 rfl) ?_
  refine lv_iload_n hx hb dX6_init_10 rfl (lv_at hl 2 rfl) ?_
  refine va_putF (D := (dC, dI)) (ci := 7) (v := .int p1) (ty := .int) (C := RX6) (T := TX6) (N := 9) hx hb hts hinX6 tyX6 tyX6_ok nmX6 hown hK hP hD hS 0 rfl rfl 1 (by decide) (hts (.fieldLink RX6 15 "LogRiver$Log" "mark" "I") (by decide +kernel)) (fun _ h9 => h9) rfl hin rfl (by decide +kernel) rfl rfl (Nat.le_of_ble_eq_true rfl) dX6_init_11 (fun H locs hP hD hS => ?_)
  have hP : va_P (dC, dI) vwCl [(q, .inr (7, [.int p0, .int p1, .int 0, .int 0, .int 0, .int 0, .int 0, .int 0, .int 0]))] H := hP
  have hD : va_D A [(q, .inr (7, [.int p0, .int p1, .int 0, .int 0, .int 0, .int 0, .int 0, .int 0, .int 0]))] := hD
  refine lv_aload_n hx hb dX6_init_14 rfl (lv_at hl 0 rfl) ?_
  refine lv_iload_n hx hb dX6_init_15 rfl (lv_at hl 3 rfl) ?_
  refine va_putF (D := (dC, dI)) (ci := 7) (v := .int p2) (ty := .int) (C := RX6) (T := TX6) (N := 9) hx hb hts hinX6 tyX6 tyX6_ok nmX6 hown hK hP hD hS 0 rfl rfl 2 (by decide) (hts (.fieldLink RX6 18 "LogRiver$Log" "size" "I") (by decide +kernel)) (fun _ h9 => h9) rfl hin rfl (by decide +kernel) rfl rfl (Nat.le_of_ble_eq_true rfl) dX6_init_16 (fun H locs hP hD hS => ?_)
  have hP : va_P (dC, dI) vwCl [(q, .inr (7, [.int p0, .int p1, .int p2, .int 0, .int 0, .int 0, .int 0, .int 0, .int 0]))] H := hP
  have hD : va_D A [(q, .inr (7, [.int p0, .int p1, .int p2, .int 0, .int 0, .int 0, .int 0, .int 0, .int 0]))] := hD
  refine lv_aload_n hx hb dX6_init_19 rfl (lv_at hl 0 rfl) ?_
  refine lv_iload hx hb dX6_init_20 (lv_at hl 4 rfl) ?_
  refine va_putF (D := (dC, dI)) (ci := 7) (v := .int p3) (ty := .int) (C := RX6) (T := TX6) (N := 9) hx hb hts hinX6 tyX6 tyX6_ok nmX6 hown hK hP hD hS 0 rfl rfl 3 (by decide) (hts (.fieldLink RX6 21 "LogRiver$Log" "stump" "I") (by decide +kernel)) (fun _ h9 => h9) rfl hin rfl (by decide +kernel) rfl rfl (Nat.le_of_ble_eq_true rfl) dX6_init_22 (fun H locs hP hD hS => ?_)
  have hP : va_P (dC, dI) vwCl [(q, .inr (7, [.int p0, .int p1, .int p2, .int p3, .int 0, .int 0, .int 0, .int 0, .int 0]))] H := hP
  have hD : va_D A [(q, .inr (7, [.int p0, .int p1, .int p2, .int p3, .int 0, .int 0, .int 0, .int 0, .int 0]))] := hD
  refine lv_aload_n hx hb dX6_init_25 rfl (lv_at hl 0 rfl) ?_
  refine lv_iconst (v := 0) hx hb dX6_init_26 (by decide) ?_
  refine va_put (D := (dC, dI)) (ci := 7) (v := .int 0) (ty := .int) (C := RX6) (T := TX6) (N := 9) hx hb hts hinX6 tyX6 tyX6_ok nmX6 hown hK hP hD hS 0 rfl rfl 4 (by decide) (hts (.fieldLink RX6 24 "LogRiver$Log" "place" "I") (by decide +kernel)) (fun _ h9 => h9) rfl (by decide +kernel) rfl rfl (Nat.le_of_ble_eq_true rfl) dX6_init_27 (fun H locs hP hD hS => ?_)
  have hP : va_P (dC, dI) vwCl [(q, .inr (7, [.int p0, .int p1, .int p2, .int p3, .int 0, .int 0, .int 0, .int 0, .int 0]))] H := hP
  have hD : va_D A [(q, .inr (7, [.int p0, .int p1, .int p2, .int p3, .int 0, .int 0, .int 0, .int 0, .int 0]))] := hD
  refine lv_aload_n hx hb dX6_init_30 rfl (lv_at hl 0 rfl) ?_
  refine lv_iconst (v := (-1)) hx hb dX6_init_31 (by decide) ?_
  refine va_put (D := (dC, dI)) (ci := 7) (v := .int (-1)) (ty := .int) (C := RX6) (T := TX6) (N := 9) hx hb hts hinX6 tyX6 tyX6_ok nmX6 hown hK hP hD hS 0 rfl rfl 5 (by decide) (hts (.fieldLink RX6 27 "LogRiver$Log" "reach" "I") (by decide +kernel)) (fun _ h9 => h9) rfl (by decide +kernel) rfl rfl (Nat.le_of_ble_eq_true rfl) dX6_init_32 (fun H locs hP hD hS => ?_)
  have hP : va_P (dC, dI) vwCl [(q, .inr (7, [.int p0, .int p1, .int p2, .int p3, .int 0, .int (-1), .int 0, .int 0, .int 0]))] H := hP
  have hD : va_D A [(q, .inr (7, [.int p0, .int p1, .int p2, .int p3, .int 0, .int (-1), .int 0, .int 0, .int 0]))] := hD
  refine lv_aload_n hx hb dX6_init_35 rfl (lv_at hl 0 rfl) ?_
  refine lv_iconst (v := (-1)) hx hb dX6_init_36 (by decide) ?_
  refine va_put (D := (dC, dI)) (ci := 7) (v := .int (-1)) (ty := .int) (C := RX6) (T := TX6) (N := 9) hx hb hts hinX6 tyX6 tyX6_ok nmX6 hown hK hP hD hS 0 rfl rfl 6 (by decide) (hts (.fieldLink RX6 30 "LogRiver$Log" "cell" "I") (by decide +kernel)) (fun _ h9 => h9) rfl (by decide +kernel) rfl rfl (Nat.le_of_ble_eq_true rfl) dX6_init_37 (fun H locs hP hD hS => ?_)
  have hP : va_P (dC, dI) vwCl [(q, .inr (7, [.int p0, .int p1, .int p2, .int p3, .int 0, .int (-1), .int (-1), .int 0, .int 0]))] H := hP
  have hD : va_D A [(q, .inr (7, [.int p0, .int p1, .int p2, .int p3, .int 0, .int (-1), .int (-1), .int 0, .int 0]))] := hD
  refine lv_aload_n hx hb dX6_init_40 rfl (lv_at hl 0 rfl) ?_
  refine lv_iconst (v := (-1)) hx hb dX6_init_41 (by decide) ?_
  refine va_put (D := (dC, dI)) (ci := 7) (v := .int (-1)) (ty := .int) (C := RX6) (T := TX6) (N := 9) hx hb hts hinX6 tyX6 tyX6_ok nmX6 hown hK hP hD hS 0 rfl rfl 8 (by decide) (hts (.fieldLink RX6 33 "LogRiver$Log" "firstBoard" "I") (by decide +kernel)) (fun _ h9 => h9) rfl (by decide +kernel) rfl rfl (Nat.le_of_ble_eq_true rfl) dX6_init_42 (fun H locs hP hD hS => ?_)
  have hP : va_P (dC, dI) vwCl [(q, .inr (7, [.int p0, .int p1, .int p2, .int p3, .int 0, .int (-1), .int (-1), .int 0, .int (-1)]))] H := hP
  have hD : va_D A [(q, .inr (7, [.int p0, .int p1, .int p2, .int p3, .int 0, .int (-1), .int (-1), .int 0, .int (-1)]))] := hD
  refine W.widen (k := 0) (n := 0) (Nat.le_of_ble_eq_true rfl) (Nat.le_of_ble_eq_true rfl) ?_
  have hP9 := hP.sub (ws' := [(q, .inr (7, [.int p0, .int p1, .int p2, .int p3, .int 0, .int (-1), .int (-1), .int 0, .int (-1)]))]) [0] rfl
  have hD9 := hD.sub (ws' := [(q, .inr (7, [.int p0, .int p1, .int p2, .int p3, .int 0, .int (-1), .int (-1), .int 0, .int (-1)]))]) [0] (by decide) rfl
  exact W.vret hx hb hr (fun t ht hW => ⟨⟨(), rfl, trivial, ⟨(by rw [ht]; exact hP9), hD9⟩⟩, hS.F ht⟩) hS.2.2 dX6_init_45
set_option maxHeartbeats 8000000 in
set_option maxRecDepth 100000 in
/-- cut -/
theorem c_X11_cut (l : Launch) (hlt : l.stackTraces = false) (e0 : Nat) (dC : Nat → ClassId) (dI : Nat → Nat → Nat) (sz : Nat) (h : Nat → Nat) (p0 p1 p2 : Int32) : Met l yX11_cut wsX11_cut ({ frames := 5, cells := 2, slots := 19, locals := 101 }) (va_Pc [.ref (h 0), .int p0, .int p1, .int p2] (pz_P e0 (dC, dI) [] [(h 0, .inr (12, [.ref (h 1), .ref (h 2), .ref (h 3), .ref (h 4), .ref (h 5), .ref (h 6), .ref (h 8), .ref (h 12), .ref (h 11), .int 0, .int 0, .int (-1), .long 0, .long 0])), (h 2, .inr (0, [.int 0, .ref e0, .int 0]))] sz)) (va_Qi (S := Unit) (fun (r : Int32) (_ : Unit) => (((0 ≤ p0 ∧ p0 ≤ 15) ∧ (1 ≤ p1 ∧ p1 ≤ 9) ∧ (0 ≤ p2 ∧ p2 ≤ 1000000)) ∧ r = 0) ∨ (¬ ((0 ≤ p0 ∧ p0 ≤ 15) ∧ (1 ≤ p1 ∧ p1 ≤ 9) ∧ (0 ≤ p2 ∧ p2 ≤ 1000000)) ∧ r = -1)) (fun _ _ => True) (va_A [(h 0, .inr (12, [.ref (h 1), .ref (h 2), .ref (h 3), .ref (h 4), .ref (h 5), .ref (h 6), .ref (h 8), .ref (h 12), .ref (h 11), .int 0, .int 0, .int (-1), .long 0, .long 0])), (h 2, .inr (0, [.int 0, .ref e0, .int 0]))] sz)) 2 19 (va_A [(h 0, .inr (12, [.ref (h 1), .ref (h 2), .ref (h 3), .ref (h 4), .ref (h 5), .ref (h 6), .ref (h 8), .ref (h 12), .ref (h 11), .int 0, .int 0, .int (-1), .long 0, .long 0])), (h 2, .inr (0, [.int 0, .ref e0, .int 0]))] sz) := by
  refine Met.ofW (cc := cX11_cut) (maxL := 5) (ret := (some .int)) (by decide) rfl ?_
  intro p e s m args below meth c s₁ B hml hv
  obtain ⟨rfl, hsz, hP, hK, hD0, hZ, hV, hT⟩ := hv
  have hx := B.exec
  have hb := B.bytes
  have hr := B.returns
  have hts := atoms_spec (ws := wsX11_cut) B.pre
  have hown : s.vm.findClass RX11 = some m.cls := findClass_of_methodNamed B.named
  have hlocks := B.notSynchronized
  have hinX11 : ∀ w ∈ wsX110, w ∈ wsX11_cut := fun w h => by unfold wsX11_cut; simp only [List.mem_cons, List.mem_append, h, or_true, true_or]
  have hinX6 : ∀ w ∈ wsX60, w ∈ wsX11_cut := fun w h => by unfold wsX11_cut; simp only [List.mem_cons, List.mem_append, h, or_true, true_or]
  subst hsz
  have hD := hD0.self (sz := s.heap.size)
  generalize hAe : va_A [(h 0, .inr (12, [.ref (h 1), .ref (h 2), .ref (h 3), .ref (h 4), .ref (h 5), .ref (h 6), .ref (h 8), .ref (h 12), .ref (h 11), .int 0, .int 0, .int (-1), .long 0, .long 0])), (h 2, .inr (0, [.int 0, .ref e0, .int 0]))] s.heap.size = A at hD hZ hT ⊢
  have hA : ∀ q : Nat, s.heap.size ≤ q → A q := fun q h => by rw [← hAe]; exact Or.inr h
  have hS : va_S A s.heap s.heap [] := va_S.rf
  have hP : va_P (dC, dI) vwCl [(h 0, .inr (12, [.ref (h 1), .ref (h 2), .ref (h 3), .ref (h 4), .ref (h 5), .ref (h 6), .ref (h 8), .ref (h 12), .ref (h 11), .int 0, .int 0, .int (-1), .long 0, .long 0])), (h 2, .inr (0, [.int 0, .ref e0, .int 0]))] s.heap := hP
  have hl := lv_entry ([.ref (h 0), .int p0, .int p1, .int p2]) (n := 5) (Nat.le_of_ble_eq_true rfl)
  rw [lg_entry_eq]
  generalize (lg_sl ([.ref (h 0), .int p0, .int p1, .int p2]) ++ List.replicate (5 - (lg_sl ([.ref (h 0), .int p0, .int p1, .int p2])).length) Slot.unset).toArray = ls at hl ⊢
  have hl : lv_has ls 5 [(0, .ref (h 0)), (1, .int p0), (2, .int p1), (3, .int p2)] := hl
  refine lv_aload_n hx hb dX11_cut_0 rfl (lv_at hl 0 rfl) ?_
  refine va_get (D := (dC, dI)) (ci := 12) (v := .ref (h 2)) (C := RX11) (T := TX11) (N := 14) hx hb hts hinX11 hown hK hP 0 rfl rfl 1 (by decide) (hts (.fieldLink RX11 16 "LogRiver" "logs" "Ljava/util/List;") (by decide +kernel)) (fun _ h9 => h9) rfl dX11_cut_1 ?_
  have hPc := hP.sub (ws' := [(h 2, .inr (0, [.int 0, .ref e0, .int 0]))]) [1] rfl
  have hDc := hD.sub (ws' := [(h 2, .inr (0, [.int 0, .ref e0, .int 0]))]) [1] (by decide) rfl
  have hKc := hK.sub (tys' := []) [] rfl
  have hFc := va_free (wc := [(h 2, .inr (0, [.int 0, .ref e0, .int 0]))]) hD hS hA [1] rfl
  refine va_callFi (va_runF (As := []) (rest := []) (hK.1 0 _ rfl).2 ⟨hx, hb, hml, hown, hts⟩ (c_Jx4a65c_size_8abf5 l hlt e0 dC dI s.heap.size (h 2) 0 (.ref e0) 0) (va_cwF 0 hts gX11_cut_Jx4a65c_size_8abf5_f59Jx4a65c rfl rfl rfl hV.2.1 (by decide +kernel) ⟨Nat.le_of_ble_eq_true rfl, Nat.le_of_ble_eq_true rfl⟩) (pz_preV [] hPc hDc hKc hZ hV hT hS hFc (va_recv hKc hPc (ci := 0) (q0 := 0) rfl rfl)) rfl rfl hl.1 rfl (lv_room (Nat.le_of_ble_eq_true rfl)) dX11_cut_4 ⟨Nat.le_of_ble_eq_true rfl, Nat.le_of_ble_eq_true rfl⟩) hS (fun q _ h => hFc q h) hFc (fun r_1 u_2 t H locs ht hvm hw_3 hB_4 hz1 hk1 hS => ?_)
  obtain ⟨hP1, hD1⟩ := hB_4
  rw [ht] at hP1
  obtain ⟨hP, hD⟩ := va_join (wr := [(h 0, .inr (12, [.ref (h 1), .ref (h 2), .ref (h 3), .ref (h 4), .ref (h 5), .ref (h 6), .ref (h 8), .ref (h 12), .ref (h 11), .int 0, .int 0, .int (-1), .long 0, .long 0]))]) (w1 := [(h 2, .inr (0, [.int 0, .ref e0, .int 0]))]) hP hD [1] [0] rfl rfl (by decide) (by decide) hk1 hFc hP1 hD1
  have hP : va_P (dC, dI) vwCl [(h 0, .inr (12, [.ref (h 1), .ref (h 2), .ref (h 3), .ref (h 4), .ref (h 5), .ref (h 6), .ref (h 8), .ref (h 12), .ref (h 11), .int 0, .int 0, .int (-1), .long 0, .long 0])), (h 2, .inr (0, [.int 0, .ref e0, .int 0]))] H := hP
  have hD : va_D A [(h 0, .inr (12, [.ref (h 1), .ref (h 2), .ref (h 3), .ref (h 4), .ref (h 5), .ref (h 6), .ref (h 8), .ref (h 12), .ref (h 11), .int 0, .int 0, .int (-1), .long 0, .long 0])), (h 2, .inr (0, [.int 0, .ref e0, .int 0]))] := hD
  subst hw_3
  refine lv_sipush (v := 400) hx hb dX11_cut_9 (by decide) ?_
  refine lv_icmp_ge (tgt := 25) hx hb dX11_cut_12 (by decide) (fun c_5 => ?_) (fun c_5 => ?_)
  · exact absurd c_5 (by decide)
  refine lv_iload_n hx hb dX11_cut_15 rfl (lv_at hl 1 rfl) ?_
  refine lv_iconst (v := 0) hx hb dX11_cut_16 (by decide) ?_
  refine lv_bipush (v := 15) hx hb dX11_cut_17 (by decide) ?_
  have hPc := hP.sub (ws' := []) [] rfl
  have hDc := hD.sub (ws' := []) [] (by decide) rfl
  have hKc := hK.sub (tys' := []) [] rfl
  have hFc := va_free (wc := []) hD hS hA [] rfl
  refine va_calli (va_runS (As := [.int p0, .int 0, .int 15]) (rest := []) ⟨hx, hb, hml, hown, hts⟩ (c_X11_isWithin l hlt e0 dC dI H.size p0 0 15) (va_cwS 3 hts gX11_cut_X11_isWithin rfl rfl rfl (by decide +kernel) ⟨Nat.le_of_ble_eq_true rfl, Nat.le_of_ble_eq_true rfl⟩) (pz_preS [.int p0, .int 0, .int 15] hPc hDc hKc hZ hV hT hS hFc) rfl rfl hl.1 rfl (lv_room (Nat.le_of_ble_eq_true rfl)) dX11_cut_19 ⟨Nat.le_of_ble_eq_true rfl, Nat.le_of_ble_eq_true rfl⟩) hS (fun q _ h => hFc q h) hFc (fun r_6 u_7 t H locs ht hvm hw_8 hB_9 hz1 hk1 hS => ?_)
  obtain ⟨hP, hD⟩ := pz_rest (wr := [(h 0, .inr (12, [.ref (h 1), .ref (h 2), .ref (h 3), .ref (h 4), .ref (h 5), .ref (h 6), .ref (h 8), .ref (h 12), .ref (h 11), .int 0, .int 0, .int (-1), .long 0, .long 0])), (h 2, .inr (0, [.int 0, .ref e0, .int 0]))]) hP hD [] [0, 1] rfl rfl (by decide) (by decide) hk1 hFc
  rcases hw_8 with ⟨rfl, wi_10⟩ | ⟨rfl, wi_10⟩
  ·
    refine lv_if_ne (tgt := 27) hx hb dX11_cut_22 (by decide) (fun c_11 => ?_) (fun c_11 => ?_)
    rotate_left
    · exact absurd c_11 (by decide)
    refine lv_iload_n hx hb dX11_cut_27 rfl (lv_at hl 2 rfl) ?_
    refine lv_iconst (v := 1) hx hb dX11_cut_28 (by decide) ?_
    refine lv_bipush (v := 9) hx hb dX11_cut_29 (by decide) ?_
    have hPc := hP.sub (ws' := []) [] rfl
    have hDc := hD.sub (ws' := []) [] (by decide) rfl
    have hKc := hK.sub (tys' := []) [] rfl
    have hFc := va_free (wc := []) hD hS hA [] rfl
    refine va_calli (va_runS (As := [.int p1, .int 1, .int 9]) (rest := []) ⟨hx, hb, hml, hown, hts⟩ (c_X11_isWithin l hlt e0 dC dI H.size p1 1 9) (va_cwS 3 hts gX11_cut_X11_isWithin rfl rfl rfl (by decide +kernel) ⟨Nat.le_of_ble_eq_true rfl, Nat.le_of_ble_eq_true rfl⟩) (pz_preS [.int p1, .int 1, .int 9] hPc hDc hKc hZ hV hT hS hFc) rfl rfl hl.1 rfl (lv_room (Nat.le_of_ble_eq_true rfl)) dX11_cut_31 ⟨Nat.le_of_ble_eq_true rfl, Nat.le_of_ble_eq_true rfl⟩) hS (fun q _ h => hFc q h) hFc (fun r_12 u_13 t H locs ht hvm hw_14 hB_15 hz1 hk1 hS => ?_)
    obtain ⟨hP, hD⟩ := pz_rest (wr := [(h 0, .inr (12, [.ref (h 1), .ref (h 2), .ref (h 3), .ref (h 4), .ref (h 5), .ref (h 6), .ref (h 8), .ref (h 12), .ref (h 11), .int 0, .int 0, .int (-1), .long 0, .long 0])), (h 2, .inr (0, [.int 0, .ref e0, .int 0]))]) hP hD [] [0, 1] rfl rfl (by decide) (by decide) hk1 hFc
    rcases hw_14 with ⟨rfl, wi_16⟩ | ⟨rfl, wi_16⟩
    ·
      refine lv_if_eq (tgt := 47) hx hb dX11_cut_34 (by decide) (fun c_17 => ?_) (fun c_17 => ?_)
      · exact absurd c_17 (by decide)
      refine lv_iload_n hx hb dX11_cut_37 rfl (lv_at hl 3 rfl) ?_
      refine lv_iconst (v := 0) hx hb dX11_cut_38 (by decide) ?_
      refine lv_ldc (v := 1000000) hx hb hown (hts (.constant RX11 186 (1000000)) (by decide +kernel)) dX11_cut_39 ?_
      have hPc := hP.sub (ws' := []) [] rfl
      have hDc := hD.sub (ws' := []) [] (by decide) rfl
      have hKc := hK.sub (tys' := []) [] rfl
      have hFc := va_free (wc := []) hD hS hA [] rfl
      refine va_calli (va_runS (As := [.int p2, .int 0, .int 1000000]) (rest := []) ⟨hx, hb, hml, hown, hts⟩ (c_X11_isWithin l hlt e0 dC dI H.size p2 0 1000000) (va_cwS 3 hts gX11_cut_X11_isWithin rfl rfl rfl (by decide +kernel) ⟨Nat.le_of_ble_eq_true rfl, Nat.le_of_ble_eq_true rfl⟩) (pz_preS [.int p2, .int 0, .int 1000000] hPc hDc hKc hZ hV hT hS hFc) rfl rfl hl.1 rfl (lv_room (Nat.le_of_ble_eq_true rfl)) dX11_cut_41 ⟨Nat.le_of_ble_eq_true rfl, Nat.le_of_ble_eq_true rfl⟩) hS (fun q _ h => hFc q h) hFc (fun r_18 u_19 t H locs ht hvm hw_20 hB_21 hz1 hk1 hS => ?_)
      obtain ⟨hP, hD⟩ := pz_rest (wr := [(h 0, .inr (12, [.ref (h 1), .ref (h 2), .ref (h 3), .ref (h 4), .ref (h 5), .ref (h 6), .ref (h 8), .ref (h 12), .ref (h 11), .int 0, .int 0, .int (-1), .long 0, .long 0])), (h 2, .inr (0, [.int 0, .ref e0, .int 0]))]) hP hD [] [0, 1] rfl rfl (by decide) (by decide) hk1 hFc
      rcases hw_20 with ⟨rfl, wi_22⟩ | ⟨rfl, wi_22⟩
      ·
        refine lv_if_ne (tgt := 49) hx hb dX11_cut_44 (by decide) (fun c_23 => ?_) (fun c_23 => ?_)
        rotate_left
        · exact absurd c_23 (by decide)
        refine va_new (ci := 7) (fs := [.int 0, .int 0, .int 0, .int 0, .int 0, .int 0, .int 0, .int 0, .int 0]) (C := RX6) (T := TX6) (N := 9) hx hb hts hinX6 tyX6 tyX6_ok hown (hts (.classLink RX11 187 RX6) (by decide +kernel)) (hts (.instantiable RX6 9) (by decide +kernel)) (hts (.initialized RX6) (by decide +kernel)) hK hP hD hS hA rfl dfX6 (Nat.le_of_ble_eq_true rfl) (Nat.le_of_ble_eq_true rfl) dX11_cut_49 (fun q_24 H hP hD hS => ?_)
        have hP : va_P (dC, dI) vwCl [(h 0, .inr (12, [.ref (h 1), .ref (h 2), .ref (h 3), .ref (h 4), .ref (h 5), .ref (h 6), .ref (h 8), .ref (h 12), .ref (h 11), .int 0, .int 0, .int (-1), .long 0, .long 0])), (h 2, .inr (0, [.int 0, .ref e0, .int 0])), (q_24, .inr (7, [.int 0, .int 0, .int 0, .int 0, .int 0, .int 0, .int 0, .int 0, .int 0]))] H := hP
        have hD : va_D A [(h 0, .inr (12, [.ref (h 1), .ref (h 2), .ref (h 3), .ref (h 4), .ref (h 5), .ref (h 6), .ref (h 8), .ref (h 12), .ref (h 11), .int 0, .int 0, .int (-1), .long 0, .long 0])), (h 2, .inr (0, [.int 0, .ref e0, .int 0])), (q_24, .inr (7, [.int 0, .int 0, .int 0, .int 0, .int 0, .int 0, .int 0, .int 0, .int 0]))] := hD
        refine lv_dup hx hb dX11_cut_52 rfl ?_
        refine lv_aload_n hx hb dX11_cut_53 rfl (lv_at hl 0 rfl) ?_
        refine va_get (D := (dC, dI)) (ci := 12) (v := .ref (h 2)) (C := RX11) (T := TX11) (N := 14) hx hb hts hinX11 hown hK hP 0 rfl rfl 1 (by decide) (hts (.fieldLink RX11 16 "LogRiver" "logs" "Ljava/util/List;") (by decide +kernel)) (fun _ h9 => h9) rfl dX11_cut_54 ?_
        have hPc := hP.sub (ws' := [(h 2, .inr (0, [.int 0, .ref e0, .int 0]))]) [1] rfl
        have hDc := hD.sub (ws' := [(h 2, .inr (0, [.int 0, .ref e0, .int 0]))]) [1] (by decide) rfl
        have hKc := hK.sub (tys' := []) [] rfl
        have hFc := va_free (wc := [(h 2, .inr (0, [.int 0, .ref e0, .int 0]))]) hD hS hA [1] rfl
        refine va_callFi (va_runF (As := []) (rest := [.ref q_24, .ref q_24]) (hK.1 0 _ rfl).2 ⟨hx, hb, hml, hown, hts⟩ (c_Jx4a65c_size_8abf5 l hlt e0 dC dI H.size (h 2) 0 (.ref e0) 0) (va_cwF 0 hts gX11_cut_Jx4a65c_size_8abf5_f59Jx4a65c rfl rfl rfl hV.2.1 (by decide +kernel) ⟨Nat.le_of_ble_eq_true rfl, Nat.le_of_ble_eq_true rfl⟩) (pz_preV [] hPc hDc hKc hZ hV hT hS hFc (va_recv hKc hPc (ci := 0) (q0 := 0) rfl rfl)) rfl rfl hl.1 rfl (lv_room (Nat.le_of_ble_eq_true rfl)) dX11_cut_57 ⟨Nat.le_of_ble_eq_true rfl, Nat.le_of_ble_eq_true rfl⟩) hS (fun q _ h => hFc q h) hFc (fun r_25 u_26 t H locs ht hvm hw_27 hB_28 hz1 hk1 hS => ?_)
        obtain ⟨hP1, hD1⟩ := hB_28
        rw [ht] at hP1
        obtain ⟨hP, hD⟩ := va_join (wr := [(h 0, .inr (12, [.ref (h 1), .ref (h 2), .ref (h 3), .ref (h 4), .ref (h 5), .ref (h 6), .ref (h 8), .ref (h 12), .ref (h 11), .int 0, .int 0, .int (-1), .long 0, .long 0])), (q_24, .inr (7, [.int 0, .int 0, .int 0, .int 0, .int 0, .int 0, .int 0, .int 0, .int 0]))]) (w1 := [(h 2, .inr (0, [.int 0, .ref e0, .int 0]))]) hP hD [1] [0, 2] rfl rfl (by decide) (by decide) hk1 hFc hP1 hD1
        have hP : va_P (dC, dI) vwCl [(h 0, .inr (12, [.ref (h 1), .ref (h 2), .ref (h 3), .ref (h 4), .ref (h 5), .ref (h 6), .ref (h 8), .ref (h 12), .ref (h 11), .int 0, .int 0, .int (-1), .long 0, .long 0])), (q_24, .inr (7, [.int 0, .int 0, .int 0, .int 0, .int 0, .int 0, .int 0, .int 0, .int 0])), (h 2, .inr (0, [.int 0, .ref e0, .int 0]))] H := hP
        have hD : va_D A [(h 0, .inr (12, [.ref (h 1), .ref (h 2), .ref (h 3), .ref (h 4), .ref (h 5), .ref (h 6), .ref (h 8), .ref (h 12), .ref (h 11), .int 0, .int 0, .int (-1), .long 0, .long 0])), (q_24, .inr (7, [.int 0, .int 0, .int 0, .int 0, .int 0, .int 0, .int 0, .int 0, .int 0])), (h 2, .inr (0, [.int 0, .ref e0, .int 0]))] := hD
        subst hw_27
        refine lv_iload_n hx hb dX11_cut_62 rfl (lv_at hl 1 rfl) ?_
        refine lv_iload_n hx hb dX11_cut_63 rfl (lv_at hl 2 rfl) ?_
        refine lv_iload_n hx hb dX11_cut_64 rfl (lv_at hl 3 rfl) ?_
        have hPc := hP.sub (ws' := [(q_24, .inr (7, [.int 0, .int 0, .int 0, .int 0, .int 0, .int 0, .int 0, .int 0, .int 0]))]) [1] rfl
        have hDc := hD.sub (ws' := [(q_24, .inr (7, [.int 0, .int 0, .int 0, .int 0, .int 0, .int 0, .int 0, .int 0, .int 0]))]) [1] (by decide) rfl
        have hKc := hK.sub (tys' := []) [] rfl
        have hFc := va_free (wc := [(q_24, .inr (7, [.int 0, .int 0, .int 0, .int 0, .int 0, .int 0, .int 0, .int 0, .int 0]))]) hD hS hA [1] rfl
        refine va_callv (va_runI (As := [.int 0, .int p0, .int p1, .int p2]) (rest := [.ref q_24]) ⟨hx, hb, hml, hown, hts⟩ (c_X6_init l hlt e0 dC dI H.size q_24 0 p0 p1 p2) (cwI 4 hts gX11_cut_X6_init rfl rfl rfl (hts (.initialized RX6) (by decide +kernel)) (hts (.methodLink RX11 189 yX6_init) (by decide +kernel)) (hts (.instanceMethod yX6_init) (by decide +kernel)) rfl (by decide +kernel) ⟨Nat.le_of_ble_eq_true rfl, Nat.le_of_ble_eq_true rfl⟩) (pz_preS [.ref q_24, .int 0, .int p0, .int p1, .int p2] hPc hDc hKc hZ hV hT hS hFc) rfl rfl hl.1 rfl (lv_room (Nat.le_of_ble_eq_true rfl)) dX11_cut_65 ⟨Nat.le_of_ble_eq_true rfl, Nat.le_of_ble_eq_true rfl⟩) hS (fun q _ h => hFc q h) hFc (fun u_30 t H locs ht hvm hw_31 hB_32 hz1 hk1 hS => ?_)
        obtain ⟨hP1, hD1⟩ := hB_32
        rw [ht] at hP1
        obtain ⟨hP, hD⟩ := va_join (wr := [(h 0, .inr (12, [.ref (h 1), .ref (h 2), .ref (h 3), .ref (h 4), .ref (h 5), .ref (h 6), .ref (h 8), .ref (h 12), .ref (h 11), .int 0, .int 0, .int (-1), .long 0, .long 0])), (h 2, .inr (0, [.int 0, .ref e0, .int 0]))]) (w1 := [(q_24, .inr (7, [.int 0, .int p0, .int p1, .int p2, .int 0, .int (-1), .int (-1), .int 0, .int (-1)]))]) hP hD [1] [0, 2] rfl rfl (by decide) (by decide) hk1 hFc hP1 hD1
        have hP : va_P (dC, dI) vwCl [(h 0, .inr (12, [.ref (h 1), .ref (h 2), .ref (h 3), .ref (h 4), .ref (h 5), .ref (h 6), .ref (h 8), .ref (h 12), .ref (h 11), .int 0, .int 0, .int (-1), .long 0, .long 0])), (h 2, .inr (0, [.int 0, .ref e0, .int 0])), (q_24, .inr (7, [.int 0, .int p0, .int p1, .int p2, .int 0, .int (-1), .int (-1), .int 0, .int (-1)]))] H := hP
        have hD : va_D A [(h 0, .inr (12, [.ref (h 1), .ref (h 2), .ref (h 3), .ref (h 4), .ref (h 5), .ref (h 6), .ref (h 8), .ref (h 12), .ref (h 11), .int 0, .int 0, .int (-1), .long 0, .long 0])), (h 2, .inr (0, [.int 0, .ref e0, .int 0])), (q_24, .inr (7, [.int 0, .int p0, .int p1, .int p2, .int 0, .int (-1), .int (-1), .int 0, .int (-1)]))] := hD
        refine lv_astore (lv' := [(4, .ref q_24), (0, .ref (h 0)), (1, .int p0), (2, .int p1), (3, .int p2)]) hx hb dX11_cut_68 hl (by decide) rfl (fun ls hl => ?_)
        refine lv_aload_n hx hb dX11_cut_70 rfl (lv_at hl 1 rfl) ?_
        refine va_get (D := (dC, dI)) (ci := 12) (v := .ref (h 2)) (C := RX11) (T := TX11) (N := 14) hx hb hts hinX11 hown hK hP 0 rfl rfl 1 (by decide) (hts (.fieldLink RX11 16 "LogRiver" "logs" "Ljava/util/List;") (by decide +kernel)) (fun _ h9 => h9) rfl dX11_cut_71 ?_
        refine lv_aload hx hb dX11_cut_74 (lv_at hl 0 rfl) ?_
        have hPc := hP.sub (ws' := [(h 2, .inr (0, [.int 0, .ref e0, .int 0])), (q_24, .inr (7, [.int 0, .int p0, .int p1, .int p2, .int 0, .int (-1), .int (-1), .int 0, .int (-1)]))]) [1, 2] rfl
        have hDc := hD.sub (ws' := [(h 2, .inr (0, [.int 0, .ref e0, .int 0])), (q_24, .inr (7, [.int 0, .int p0, .int p1, .int p2, .int 0, .int (-1), .int (-1), .int 0, .int (-1)]))]) [1, 2] (by decide) rfl
        have hKc := hK.sub (tys' := []) [] rfl
        have hFc := va_free (wc := [(h 2, .inr (0, [.int 0, .ref e0, .int 0])), (q_24, .inr (7, [.int 0, .int p0, .int p1, .int p2, .int 0, .int (-1), .int (-1), .int 0, .int (-1)]))]) hD hS hA [1, 2] rfl
        refine va_callFi (va_runF (As := [.ref q_24]) (rest := []) (hK.1 0 _ rfl).2 ⟨hx, hb, hml, hown, hts⟩ (c_add0_X6 l hlt e0 dC dI H.size (h 2) 0 q_24 [.int 0, .int p0, .int p1, .int p2, .int 0, .int (-1), .int (-1), .int 0, .int (-1)]) (va_cwF 1 hts gX11_cut_Jx4a65c_add_9ea2d_f86Jx4a65c rfl rfl rfl hV.2.2.1 (by decide +kernel) ⟨Nat.le_of_ble_eq_true rfl, Nat.le_of_ble_eq_true rfl⟩) (pz_preV [.ref q_24] hPc hDc hKc hZ hV hT hS hFc (va_recv hKc hPc (ci := 0) (q0 := 0) rfl rfl)) rfl rfl hl.1 rfl (lv_room (Nat.le_of_ble_eq_true rfl)) dX11_cut_76 ⟨Nat.le_of_ble_eq_true rfl, Nat.le_of_ble_eq_true rfl⟩) hS (fun q _ h => hFc q h) hFc (fun r_33 u_34 t H locs ht hvm hw_35 hB_36 hz1 hk1 hS => ?_)
        obtain ⟨mdu_34, rau_34, cru_34, fru_34⟩ := u_34
        obtain ⟨hP1, hD1, hK1⟩ := hB_36
        rw [ht] at hP1
        have hK := (hK.app (va_K.moved hvm.symm hK1))
        obtain ⟨hP, hD⟩ := va_join (wr := [(h 0, .inr (12, [.ref (h 1), .ref (h 2), .ref (h 3), .ref (h 4), .ref (h 5), .ref (h 6), .ref (h 8), .ref (h 12), .ref (h 11), .int 0, .int 0, .int (-1), .long 0, .long 0]))]) (w1 := [(h 2, .inr (0, [.int mdu_34, .ref rau_34, .int 1])), (rau_34, .inl (cru_34, 10, .inr (.inr (.inr (.inr fru_34))))), (q_24, .inr (7, [.int 0, .int p0, .int p1, .int p2, .int 0, .int (-1), .int (-1), .int 0, .int (-1)]))]) hP hD [1, 2] [0] rfl rfl (by decide) (by decide) hk1 hFc hP1 hD1
        have hK : va_K (dC, dI) vwCl [(cru_34, .object "java/lang/Object")] s := hK
        have hP : va_P (dC, dI) vwCl [(h 0, .inr (12, [.ref (h 1), .ref (h 2), .ref (h 3), .ref (h 4), .ref (h 5), .ref (h 6), .ref (h 8), .ref (h 12), .ref (h 11), .int 0, .int 0, .int (-1), .long 0, .long 0])), (h 2, .inr (0, [.int mdu_34, .ref rau_34, .int 1])), (rau_34, .inl (cru_34, 10, .inr (.inr (.inr (.inr fru_34))))), (q_24, .inr (7, [.int 0, .int p0, .int p1, .int p2, .int 0, .int (-1), .int (-1), .int 0, .int (-1)]))] H := hP
        have hD : va_D A [(h 0, .inr (12, [.ref (h 1), .ref (h 2), .ref (h 3), .ref (h 4), .ref (h 5), .ref (h 6), .ref (h 8), .ref (h 12), .ref (h 11), .int 0, .int 0, .int (-1), .long 0, .long 0])), (h 2, .inr (0, [.int mdu_34, .ref rau_34, .int 1])), (rau_34, .inl (cru_34, 10, .inr (.inr (.inr (.inr fru_34))))), (q_24, .inr (7, [.int 0, .int p0, .int p1, .int p2, .int 0, .int (-1), .int (-1), .int 0, .int (-1)]))] := hD
        subst hw_35
        refine lv_pop hx hb dX11_cut_81 rfl ?_
        refine lv_aload hx hb dX11_cut_82 (lv_at hl 0 rfl) ?_
        refine va_get (D := (dC, dI)) (ci := 7) (v := .int 0) (C := RX6) (T := TX6) (N := 9) hx hb hts hinX6 hown hK hP 3 rfl rfl 0 (by decide) (hts (.fieldLink RX11 192 "LogRiver$Log" "number" "I") (by decide +kernel)) (fun _ h9 => h9) rfl dX11_cut_84 ?_
        refine W.widen (k := 2) (n := 19) (Nat.le_of_ble_eq_true rfl) (Nat.le_of_ble_eq_true rfl) ?_
        exact W.iret (v := 0) hx hb hr (fun t ht hW => ⟨⟨0, (), rfl, Or.inl ⟨⟨wi_10, wi_16, wi_22⟩, rfl⟩, trivial⟩, hS.F ht⟩) hS.2.2 dX11_cut_87
      ·
        refine lv_if_ne (tgt := 49) hx hb dX11_cut_44 (by decide) (fun c_37 => ?_) (fun c_37 => ?_)
        · exact absurd c_37 (by decide)
        refine lv_iconst (v := (-1)) hx hb dX11_cut_47 (by decide) ?_
        refine W.widen (k := 2) (n := 19) (Nat.le_of_ble_eq_true rfl) (Nat.le_of_ble_eq_true rfl) ?_
        exact W.iret (v := (-1)) hx hb hr (fun t ht hW => ⟨⟨(-1), (), rfl, Or.inr ⟨(fun h9 => wi_22 h9.2.2), rfl⟩, trivial⟩, hS.F ht⟩) hS.2.2 dX11_cut_48
    ·
      refine lv_if_eq (tgt := 47) hx hb dX11_cut_34 (by decide) (fun c_38 => ?_) (fun c_38 => ?_)
      rotate_left
      · exact absurd c_38 (by decide)
      refine lv_iconst (v := (-1)) hx hb dX11_cut_47 (by decide) ?_
      refine W.widen (k := 2) (n := 19) (Nat.le_of_ble_eq_true rfl) (Nat.le_of_ble_eq_true rfl) ?_
      exact W.iret (v := (-1)) hx hb hr (fun t ht hW => ⟨⟨(-1), (), rfl, Or.inr ⟨(fun h9 => wi_16 h9.2.1), rfl⟩, trivial⟩, hS.F ht⟩) hS.2.2 dX11_cut_48
  ·
    refine lv_if_ne (tgt := 27) hx hb dX11_cut_22 (by decide) (fun c_39 => ?_) (fun c_39 => ?_)
    · exact absurd c_39 (by decide)
    refine lv_iconst (v := (-1)) hx hb dX11_cut_25 (by decide) ?_
    refine W.widen (k := 2) (n := 19) (Nat.le_of_ble_eq_true rfl) (Nat.le_of_ble_eq_true rfl) ?_
    exact W.iret (v := (-1)) hx hb hr (fun t ht hW => ⟨⟨(-1), (), rfl, Or.inr ⟨(fun h9 => wi_10 h9.1), rfl⟩, trivial⟩, hS.F ht⟩) hS.2.2 dX11_cut_26
set_option maxHeartbeats 8000000 in
set_option maxRecDepth 100000 in
/-- Law(..) -/
theorem c_X4_init (l : Launch) (hlt : l.stackTraces = false) (e0 : Nat) (dC : Nat → ClassId) (dI : Nat → Nat → Nat) (sz : Nat) (q rc : Nat) (p0 : Int32) : Met l yX4_init wsX4_init ({ frames := 1, cells := 0, slots := 0, locals := 12 }) (va_Pc [.ref q, .int p0, .ref rc] (pz_P e0 (dC, dI) [] [(q, .inr (5, [.int 0, .null]))] sz)) (va_Qv (S := Unit) (fun _ : Unit => True) (fun u t => va_P (dC, dI) vwCl [(q, .inr (5, [.int p0, .ref rc]))] t.heap ∧ va_D (va_A [(q, .inr (5, [.int 0, .null]))] sz) [(q, .inr (5, [.int p0, .ref rc]))]) (va_A [(q, .inr (5, [.int 0, .null]))] sz)) 0 0 (va_A [(q, .inr (5, [.int 0, .null]))] sz) := by
  refine Met.ofW (cc := cX4_init) (maxL := 3) (ret := none) (by decide) rfl ?_
  intro p e s m args below meth c s₁ B hml hv
  obtain ⟨rfl, hsz, hP, hK, hD0, hZ, hV, hT⟩ := hv
  have hx := B.exec
  have hb := B.bytes
  have hr := B.returns
  have hts := atoms_spec (ws := wsX4_init) B.pre
  have hown : s.vm.findClass RX4 = some m.cls := findClass_of_methodNamed B.named
  have hlocks := B.notSynchronized
  have hin : meth.name = "<init>" := (name_of_methodNamed B.named B.method).1
  have hinX4 : ∀ w ∈ wsX40, w ∈ wsX4_init := fun w h => by unfold wsX4_init; simp only [List.mem_cons, List.mem_append, h, or_true, true_or]
  subst hsz
  have hD := hD0.self (sz := s.heap.size)
  generalize hAe : va_A [(q, .inr (5, [.int 0, .null]))] s.heap.size = A at hD hZ hT ⊢
  have hA : ∀ q : Nat, s.heap.size ≤ q → A q := fun q h => by rw [← hAe]; exact Or.inr h
  have hS : va_S A s.heap s.heap [] := va_S.rf
  have hP : va_P (dC, dI) vwCl [(q, .inr (5, [.int 0, .null]))] s.heap := hP
  have hl := lv_entry ([.ref q, .int p0, .ref rc]) (n := 3) (Nat.le_of_ble_eq_true rfl)
  rw [lg_entry_eq]
  generalize (lg_sl ([.ref q, .int p0, .ref rc]) ++ List.replicate (3 - (lg_sl ([.ref q, .int p0, .ref rc])).length) Slot.unset).toArray = ls at hl ⊢
  have hl : lv_has ls 3 [(0, .ref q), (1, .int p0), (2, .ref rc)] := hl
  refine lv_aload_n hx hb dX4_init_0 rfl (lv_at hl 0 rfl) ?_
  refine W.objInit hx hb hown (hts (.methodLink RX4 1 objectInit) (by decide +kernel)) (hts (.instanceMethod objectInit) (by decide +kernel)) (hts (.code objectInit ⟨#[0xb1]⟩ 1 none) (by decide +kernel)) rfl (by rw [hml]; exact hl.1) rfl dX4_init_1 (Nat.le_of_ble_eq_true rfl) (Nat.le_of_ble_eq_true rfl) ?_
  refine W.eq (g2 := F0 m 4 ls []) rfl ?_
  refine lv_aload_n hx hb dX4_init_4 rfl (lv_at hl 0 rfl) ?_
  refine lv_iload_n hx hb dX4_init_5 rfl (lv_at hl 1 rfl) ?_
  refine va_putF (D := (dC, dI)) (ci := 5) (v := .int p0) (ty := .int) (C := RX4) (T := TX4) (N := 2) hx hb hts hinX4 tyX4 tyX4_ok nmX4 hown hK hP hD hS 0 rfl rfl 0 (by decide) (hts (.fieldLink RX4 7 "LogRiver$Law" "day" "I") (by decide +kernel)) (fun _ h9 => h9) rfl hin rfl (by decide +kernel) rfl rfl (Nat.le_of_ble_eq_true rfl) dX4_init_6 (fun H locs hP hD hS => ?_)
  have hP : va_P (dC, dI) vwCl [(q, .inr (5, [.int p0, .null]))] H := hP
  have hD : va_D A [(q, .inr (5, [.int p0, .null]))] := hD
  refine lv_aload_n hx hb dX4_init_9 rfl (lv_at hl 0 rfl) ?_
  refine lv_aload_n hx hb dX4_init_10 rfl (lv_at hl 2 rfl) ?_
  refine va_putF (D := (dC, dI)) (ci := 5) (v := .ref rc) (ty := .array .int) (C := RX4) (T := TX4) (N := 2) hx hb hts hinX4 tyX4 tyX4_ok nmX4 hown hK hP hD hS 0 rfl rfl 1 (by decide) (hts (.fieldLink RX4 13 "LogRiver$Law" "code" "[I") (by decide +kernel)) (fun _ h9 => h9) rfl hin rfl (by decide +kernel) rfl rfl (Nat.le_of_ble_eq_true rfl) dX4_init_11 (fun H locs hP hD hS => ?_)
  have hP : va_P (dC, dI) vwCl [(q, .inr (5, [.int p0, .ref rc]))] H := hP
  have hD : va_D A [(q, .inr (5, [.int p0, .ref rc]))] := hD
  refine W.widen (k := 0) (n := 0) (Nat.le_of_ble_eq_true rfl) (Nat.le_of_ble_eq_true rfl) ?_
  have hP9 := hP.sub (ws' := [(q, .inr (5, [.int p0, .ref rc]))]) [0] rfl
  have hD9 := hD.sub (ws' := [(q, .inr (5, [.int p0, .ref rc]))]) [0] (by decide) rfl
  exact W.vret hx hb hr (fun t ht hW => ⟨⟨(), rfl, trivial, ⟨(by rw [ht]; exact hP9), hD9⟩⟩, hS.F ht⟩) hS.2.2 dX4_init_14
set_option maxHeartbeats 8000000 in
set_option maxRecDepth 100000 in
/-- copyOf(row, 0) -/
theorem c_J7_copyOf_59c91 (l : Launch) (hlt : l.stackTraces = false) (e0 : Nat) (dC : Nat → ClassId) (dI : Nat → Nat → Nat) (sz : Nat) (q : Nat) (cA : ClassId) (f : Nat → Int32) : Met l yJ7_copyOf_59c91 wsJ7_copyOf_59c91 ({ frames := 1, cells := 1, slots := 0, locals := 100 }) (va_Pc [.ref q, .int 0] (pz_P e0 (dC, dI) [(cA, .int)] [(q, .inl (cA, 500, .inl f))] sz)) (va_Qr (S := Unit) (fun _ : Unit => True) (fun _ _ _ => True) (va_A [(q, .inl (cA, 500, .inl f))] sz)) 1 0 (va_A [(q, .inl (cA, 500, .inl f))] sz) := by
  refine Met.ofW (cc := cJ7_copyOf_59c91) (maxL := 3) (ret := (some (.array .int))) (by decide) rfl ?_
  intro p e s m args below meth c s₁ B hml hv
  obtain ⟨rfl, hsz, hP, hK, hD0, hZ, hV, hT⟩ := hv
  have hx := B.exec
  have hb := B.bytes
  have hr := B.returns
  have hts := atoms_spec (ws := wsJ7_copyOf_59c91) B.pre
  have hown : s.vm.findClass RJ7 = some m.cls := findClass_of_methodNamed B.named
  have hlocks := B.notSynchronized
  subst hsz
  have hD := hD0.self (sz := s.heap.size)
  generalize hAe : va_A [(q, .inl (cA, 500, .inl f))] s.heap.size = A at hD hZ hT ⊢
  have hA : ∀ q : Nat, s.heap.size ≤ q → A q := fun q h => by rw [← hAe]; exact Or.inr h
  have hS : va_S A s.heap s.heap [] := va_S.rf
  have hP : va_P (dC, dI) vwCl [(q, .inl (cA, 500, .inl f))] s.heap := hP
  have hl := lv_entry ([.ref q, .int 0]) (n := 3) (Nat.le_of_ble_eq_true rfl)
  rw [lg_entry_eq]
  generalize (lg_sl ([.ref q, .int 0]) ++ List.replicate (3 - (lg_sl ([.ref q, .int 0])).length) Slot.unset).toArray = ls at hl ⊢
  have hl : lv_has ls 3 [(0, .ref q), (1, .int 0)] := hl
  refine lv_iload_n hx hb dJ7_copyOf_59c91_0 rfl (lv_at hl 1 rfl) ?_
  refine lv_aload_n hx hb dJ7_copyOf_59c91_1 rfl (lv_at hl 0 rfl) ?_
  refine va_alen (v := 500) hx hb hK hP 0 0 rfl rfl rfl dJ7_copyOf_59c91_2 ?_
  refine lv_icmp_ne (tgt := 14) hx hb dJ7_copyOf_59c91_3 (by decide) (fun c_1 => ?_) (fun c_1 => ?_)
  rotate_left
  · exact absurd c_1 (by decide)
  refine lv_iload_n hx hb dJ7_copyOf_59c91_14 rfl (lv_at hl 1 rfl) ?_
  refine va_newa (atype := .int) (ty := .int) (N' := 0) (n := 0) (a0 := (0, .inl (fun _ => 0))) hx hb (hts (.arrayClass .int) (by decide +kernel)) rfl hK hP hD hS hA (pz_ai 0) (by decide) (by decide) (by decide) (Nat.le_of_ble_eq_true rfl) (Nat.le_of_ble_eq_true rfl) dJ7_copyOf_59c91_15 (fun q_2 cA_3 H hK hP hD hS => ?_)
  have hP : va_P (dC, dI) vwCl [(q, .inl (cA, 500, .inl f)), (q_2, .inl (cA_3, 0, .inl (fun _ => 0)))] H := hP
  have hD : va_D A [(q, .inl (cA, 500, .inl f)), (q_2, .inl (cA_3, 0, .inl (fun _ => 0)))] := hD
  have hK : va_K (dC, dI) vwCl [(cA, .int), (cA_3, .int)] s := hK
  refine lv_astore_n (lv' := [(2, .ref q_2), (0, .ref q), (1, .int 0)]) hx hb dJ7_copyOf_59c91_17 rfl hl (by decide) rfl (fun ls hl => ?_)
  refine lv_aload_n hx hb dJ7_copyOf_59c91_18 rfl (lv_at hl 1 rfl) ?_
  refine lv_iconst (v := 0) hx hb dJ7_copyOf_59c91_19 (by decide) ?_
  refine lv_aload_n hx hb dJ7_copyOf_59c91_20 rfl (lv_at hl 0 rfl) ?_
  refine lv_iconst (v := 0) hx hb dJ7_copyOf_59c91_21 (by decide) ?_
  refine lv_aload_n hx hb dJ7_copyOf_59c91_22 rfl (lv_at hl 1 rfl) ?_
  refine va_alen (v := 500) hx hb hK hP 0 0 rfl rfl rfl dJ7_copyOf_59c91_23 ?_
  refine lv_iload_n hx hb dJ7_copyOf_59c91_24 rfl (lv_at hl 2 rfl) ?_
  refine va_mmin hx hb (hml.trans hl.1.symm) hown (hts (.methodLink RJ7 304 Lib.Math.min.name) (by decide +kernel)) (hts (.static Lib.Math.min.name) (by decide +kernel)) (hts (.initialized "java/lang/Math") (by decide +kernel)) (hts (.code Lib.Math.min.name Lib.Math.min.code 2 (some .int)) (by decide +kernel)) (Nat.le_of_ble_eq_true rfl) (Nat.le_of_ble_eq_true rfl) (Nat.le_of_ble_eq_true rfl) (Nat.le_of_ble_eq_true rfl) dJ7_copyOf_59c91_25 ?_
  refine lv_topi (fun x_4 ex_4 => ?_)
  obtain rfl : x_4 = 0 := ex_4.trans (by decide)
  refine va_copyi (ty := .int) hx hb (hml.trans hl.1.symm) hown (hts (.methodLink RJ7 150 arraycopyName) (by decide +kernel)) (hts (.native arraycopyName) (by decide +kernel)) (hts (.static arraycopyName) (by decide +kernel)) (hts (.initialized "java/lang/System") (by decide +kernel)) hK hP hD hS 0 1 0 1 rfl rfl rfl rfl rfl (by decide) (by decide) (by decide) (by decide) (by decide) (fun i9 hi9 => absurd hi9 (Nat.not_lt_zero i9)) (Nat.le_of_ble_eq_true rfl) (by decide +kernel) dJ7_copyOf_59c91_28 (fun H locs hP hD hS => ?_)
  have hP : va_P (dC, dI) vwCl [(q, .inl (cA, 500, .inl f)), (q_2, .inl (cA_3, 0, .inl (va_cpy f (fun _ => 0) (Int32.toNatClampNeg 0) (Int32.toNatClampNeg 0) (Int32.toNatClampNeg 0))))] H := hP
  have hD : va_D A [(q, .inl (cA, 500, .inl f)), (q_2, .inl (cA_3, 0, .inl (va_cpy f (fun _ => 0) (Int32.toNatClampNeg 0) (Int32.toNatClampNeg 0) (Int32.toNatClampNeg 0))))] := hD
  refine lv_aload_n hx hb dJ7_copyOf_59c91_31 rfl (lv_at hl 0 rfl) ?_
  refine W.widen (k := 1) (n := 0) (Nat.le_of_ble_eq_true rfl) (Nat.le_of_ble_eq_true rfl) ?_
  exact W.aret (v := .ref q_2) hx hb hr (Or.inr ⟨_, rfl⟩) (Or.inr ⟨_, rfl⟩) (fun t ht hW => ⟨⟨(), q_2, rfl, trivial, trivial⟩, hS.F ht⟩) hS.2.2 dJ7_copyOf_59c91_32
set_option maxHeartbeats 8000000 in
set_option maxRecDepth 100000 in
/-- law -/
theorem c_X11_law (l : Launch) (hlt : l.stackTraces = false) (e0 : Nat) (dC : Nat → ClassId) (dI : Nat → Nat → Nat) (sz : Nat) (h : Nat → Nat) (ca : Nat → ClassId) (p0 p1 : Int32) : vx_Met l yX11_law wsX11_law ({ frames := 6, cells := 3, slots := 12, locals := 122 }) (va_Pc [.ref (h 0), .int p0, .int p1] (pz_P e0 (dC, dI) [(ca 0, .int), (ca 1, .int)] [(h 0, .inr (12, [.ref (h 1), .ref (h 2), .ref (h 3), .ref (h 4), .ref (h 5), .ref (h 6), .ref (h 8), .ref (h 12), .ref (h 11), .int 0, .int 0, .int (-1), .long 0, .long 0])), (h 3, .inr (0, [.int 0, .ref e0, .int 0])), (h 6, .inr (10, [.ref (h 7), .int 0])), (h 7, .inl (ca 0, 500, .inl (fun _ => 0))), (h 8, .inr (6, [.ref (h 9), .ref (h 10), .int 0, .int 0, .int 0])), (h 9, .inr (11, [.ref (h 6), .int 0, .int 0, .int 0, .int 0])), (h 10, .inl (ca 1, 500, .inl (fun _ => 0)))] sz)) (va_Qi (S := Unit) (fun (r : Int32) (_ : Unit) => r = 0 ∧ ((0 ≤ p0 ∧ p0 ≤ 0) ∧ (0 ≤ p1 ∧ p1 ≤ 1000))) (fun _ _ => True) (va_A [(h 0, .inr (12, [.ref (h 1), .ref (h 2), .ref (h 3), .ref (h 4), .ref (h 5), .ref (h 6), .ref (h 8), .ref (h 12), .ref (h 11), .int 0, .int 0, .int (-1), .long 0, .long 0])), (h 3, .inr (0, [.int 0, .ref e0, .int 0])), (h 6, .inr (10, [.ref (h 7), .int 0])), (h 7, .inl (ca 0, 500, .inl (fun _ => 0))), (h 8, .inr (6, [.ref (h 9), .ref (h 10), .int 0, .int 0, .int 0])), (h 9, .inr (11, [.ref (h 6), .int 0, .int 0, .int 0, .int 0])), (h 10, .inl (ca 1, 500, .inl (fun _ => 0)))] sz)) (pz_X pz_I (¬ ((0 ≤ p0 ∧ p0 ≤ 0) ∧ (0 ≤ p1 ∧ p1 ≤ 1000))) (va_A [(h 0, .inr (12, [.ref (h 1), .ref (h 2), .ref (h 3), .ref (h 4), .ref (h 5), .ref (h 6), .ref (h 8), .ref (h 12), .ref (h 11), .int 0, .int 0, .int (-1), .long 0, .long 0])), (h 3, .inr (0, [.int 0, .ref e0, .int 0])), (h 6, .inr (10, [.ref (h 7), .int 0])), (h 7, .inl (ca 0, 500, .inl (fun _ => 0))), (h 8, .inr (6, [.ref (h 9), .ref (h 10), .int 0, .int 0, .int 0])), (h 9, .inr (11, [.ref (h 6), .int 0, .int 0, .int 0, .int 0])), (h 10, .inl (ca 1, 500, .inl (fun _ => 0)))] sz)) 3 12 (va_A [(h 0, .inr (12, [.ref (h 1), .ref (h 2), .ref (h 3), .ref (h 4), .ref (h 5), .ref (h 6), .ref (h 8), .ref (h 12), .ref (h 11), .int 0, .int 0, .int (-1), .long 0, .long 0])), (h 3, .inr (0, [.int 0, .ref e0, .int 0])), (h 6, .inr (10, [.ref (h 7), .int 0])), (h 7, .inl (ca 0, 500, .inl (fun _ => 0))), (h 8, .inr (6, [.ref (h 9), .ref (h 10), .int 0, .int 0, .int 0])), (h 9, .inr (11, [.ref (h 6), .int 0, .int 0, .int 0, .int 0])), (h 10, .inl (ca 1, 500, .inl (fun _ => 0)))] sz) := by
  refine vx_ofW (cc := cX11_law) (maxL := 3) (ret := (some .int)) (by decide) rfl ?_
  intro p e s m args below meth c s₁ B hml hout hv
  obtain ⟨rfl, hsz, hP, hK, hD0, hZ, hV, hT⟩ := hv
  have hx := B.exec
  have hb := B.bytes
  have hr := B.returns
  have hts := atoms_spec (ws := wsX11_law) B.pre
  have hown : s.vm.findClass RX11 = some m.cls := findClass_of_methodNamed B.named
  have hlocks := B.notSynchronized
  have hinX11 : ∀ w ∈ wsX110, w ∈ wsX11_law := fun w h => by unfold wsX11_law; simp only [List.mem_cons, List.mem_append, h, or_true, true_or]
  have hinX4 : ∀ w ∈ wsX40, w ∈ wsX11_law := fun w h => by unfold wsX11_law; simp only [List.mem_cons, List.mem_append, h, or_true, true_or]
  have hinX5 : ∀ w ∈ wsX50, w ∈ wsX11_law := fun w h => by unfold wsX11_law; simp only [List.mem_cons, List.mem_append, h, or_true, true_or]
  have hinX9 : ∀ w ∈ wsX90, w ∈ wsX11_law := fun w h => by unfold wsX11_law; simp only [List.mem_cons, List.mem_append, h, or_true, true_or]
  subst hsz
  have hD := hD0.self (sz := s.heap.size)
  generalize hAe : va_A [(h 0, .inr (12, [.ref (h 1), .ref (h 2), .ref (h 3), .ref (h 4), .ref (h 5), .ref (h 6), .ref (h 8), .ref (h 12), .ref (h 11), .int 0, .int 0, .int (-1), .long 0, .long 0])), (h 3, .inr (0, [.int 0, .ref e0, .int 0])), (h 6, .inr (10, [.ref (h 7), .int 0])), (h 7, .inl (ca 0, 500, .inl (fun _ => 0))), (h 8, .inr (6, [.ref (h 9), .ref (h 10), .int 0, .int 0, .int 0])), (h 9, .inr (11, [.ref (h 6), .int 0, .int 0, .int 0, .int 0])), (h 10, .inl (ca 1, 500, .inl (fun _ => 0)))] s.heap.size = A at hD hZ hT ⊢
  have hA : ∀ q : Nat, s.heap.size ≤ q → A q := fun q h => by rw [← hAe]; exact Or.inr h
  have hS : va_S A s.heap s.heap [] := va_S.rf
  have hP : va_P (dC, dI) vwCl [(h 0, .inr (12, [.ref (h 1), .ref (h 2), .ref (h 3), .ref (h 4), .ref (h 5), .ref (h 6), .ref (h 8), .ref (h 12), .ref (h 11), .int 0, .int 0, .int (-1), .long 0, .long 0])), (h 3, .inr (0, [.int 0, .ref e0, .int 0])), (h 6, .inr (10, [.ref (h 7), .int 0])), (h 7, .inl (ca 0, 500, .inl (fun _ => 0))), (h 8, .inr (6, [.ref (h 9), .ref (h 10), .int 0, .int 0, .int 0])), (h 9, .inr (11, [.ref (h 6), .int 0, .int 0, .int 0, .int 0])), (h 10, .inl (ca 1, 500, .inl (fun _ => 0)))] s.heap := hP
  have hl := lv_entry ([.ref (h 0), .int p0, .int p1]) (n := 3) (Nat.le_of_ble_eq_true rfl)
  rw [lg_entry_eq]
  generalize (lg_sl ([.ref (h 0), .int p0, .int p1]) ++ List.replicate (3 - (lg_sl ([.ref (h 0), .int p0, .int p1])).length) Slot.unset).toArray = ls at hl ⊢
  have hl : lv_has ls 3 [(0, .ref (h 0)), (1, .int p0), (2, .int p1)] := hl
  refine lv_iload_n hx hb dX11_law_0 rfl (lv_at hl 1 rfl) ?_
  refine lv_iconst (v := 0) hx hb dX11_law_1 (by decide) ?_
  refine lv_aload_n hx hb dX11_law_2 rfl (lv_at hl 0 rfl) ?_
  refine va_get (D := (dC, dI)) (ci := 12) (v := .ref (h 6)) (C := RX11) (T := TX11) (N := 14) hx hb hts hinX11 hown hK hP 0 rfl rfl 5 (by decide) (hts (.fieldLink RX11 31 "LogRiver" "tape" "LLogRiver$Tape;") (by decide +kernel)) (fun _ h9 => h9) rfl dX11_law_3 ?_
  refine va_get (D := (dC, dI)) (ci := 10) (v := .int 0) (C := RX9) (T := TX9) (N := 2) hx hb hts hinX9 hown hK hP 2 rfl rfl 1 (by decide) (hts (.fieldLink RX11 145 "LogRiver$Tape" "length" "I") (by decide +kernel)) (fun _ h9 => h9) rfl dX11_law_6 ?_
  have hPc := hP.sub (ws' := []) [] rfl
  have hDc := hD.sub (ws' := []) [] (by decide) rfl
  have hKc := hK.sub (tys' := []) [] rfl
  have hFc := va_free (wc := []) hD hS hA [] rfl
  refine va_calli (va_runS (As := [.int p0, .int 0, .int 0]) (rest := []) ⟨hx, hb, hml, hown, hts⟩ (c_X11_isWithin l hlt e0 dC dI s.heap.size p0 0 0) (va_cwS 3 hts gX11_law_X11_isWithin rfl rfl rfl (by decide +kernel) ⟨Nat.le_of_ble_eq_true rfl, Nat.le_of_ble_eq_true rfl⟩) (pz_preS [.int p0, .int 0, .int 0] hPc hDc hKc hZ hV hT hS hFc) rfl rfl hl.1 rfl (lv_room (Nat.le_of_ble_eq_true rfl)) dX11_law_9 ⟨Nat.le_of_ble_eq_true rfl, Nat.le_of_ble_eq_true rfl⟩) hS (fun q _ h => hFc q h) hFc (fun r_1 u_2 t H locs ht hvm hw_3 hB_4 hz1 hk1 hS => ?_)
  obtain ⟨hP, hD⟩ := pz_rest (wr := [(h 0, .inr (12, [.ref (h 1), .ref (h 2), .ref (h 3), .ref (h 4), .ref (h 5), .ref (h 6), .ref (h 8), .ref (h 12), .ref (h 11), .int 0, .int 0, .int (-1), .long 0, .long 0])), (h 3, .inr (0, [.int 0, .ref e0, .int 0])), (h 6, .inr (10, [.ref (h 7), .int 0])), (h 7, .inl (ca 0, 500, .inl (fun _ => 0))), (h 8, .inr (6, [.ref (h 9), .ref (h 10), .int 0, .int 0, .int 0])), (h 9, .inr (11, [.ref (h 6), .int 0, .int 0, .int 0, .int 0])), (h 10, .inl (ca 1, 500, .inl (fun _ => 0)))]) hP hD [] [0, 1, 2, 3, 4, 5, 6] rfl rfl (by decide) (by decide) hk1 hFc
  rcases hw_3 with ⟨rfl, wi_5⟩ | ⟨rfl, wi_5⟩
  ·
    refine lv_if_eq (tgt := 26) hx hb dX11_law_12 (by decide) (fun c_6 => ?_) (fun c_6 => ?_)
    · exact absurd c_6 (by decide)
    refine lv_iload_n hx hb dX11_law_15 rfl (lv_at hl 2 rfl) ?_
    refine lv_iconst (v := 0) hx hb dX11_law_16 (by decide) ?_
    refine lv_sipush (v := 1000) hx hb dX11_law_17 (by decide) ?_
    have hPc := hP.sub (ws' := []) [] rfl
    have hDc := hD.sub (ws' := []) [] (by decide) rfl
    have hKc := hK.sub (tys' := []) [] rfl
    have hFc := va_free (wc := []) hD hS hA [] rfl
    refine va_calli (va_runS (As := [.int p1, .int 0, .int 1000]) (rest := []) ⟨hx, hb, hml, hown, hts⟩ (c_X11_isWithin l hlt e0 dC dI H.size p1 0 1000) (va_cwS 3 hts gX11_law_X11_isWithin rfl rfl rfl (by decide +kernel) ⟨Nat.le_of_ble_eq_true rfl, Nat.le_of_ble_eq_true rfl⟩) (pz_preS [.int p1, .int 0, .int 1000] hPc hDc hKc hZ hV hT hS hFc) rfl rfl hl.1 rfl (lv_room (Nat.le_of_ble_eq_true rfl)) dX11_law_20 ⟨Nat.le_of_ble_eq_true rfl, Nat.le_of_ble_eq_true rfl⟩) hS (fun q _ h => hFc q h) hFc (fun r_7 u_8 t H locs ht hvm hw_9 hB_10 hz1 hk1 hS => ?_)
    obtain ⟨hP, hD⟩ := pz_rest (wr := [(h 0, .inr (12, [.ref (h 1), .ref (h 2), .ref (h 3), .ref (h 4), .ref (h 5), .ref (h 6), .ref (h 8), .ref (h 12), .ref (h 11), .int 0, .int 0, .int (-1), .long 0, .long 0])), (h 3, .inr (0, [.int 0, .ref e0, .int 0])), (h 6, .inr (10, [.ref (h 7), .int 0])), (h 7, .inl (ca 0, 500, .inl (fun _ => 0))), (h 8, .inr (6, [.ref (h 9), .ref (h 10), .int 0, .int 0, .int 0])), (h 9, .inr (11, [.ref (h 6), .int 0, .int 0, .int 0, .int 0])), (h 10, .inl (ca 1, 500, .inl (fun _ => 0)))]) hP hD [] [0, 1, 2, 3, 4, 5, 6] rfl rfl (by decide) (by decide) hk1 hFc
    rcases hw_9 with ⟨rfl, wi_11⟩ | ⟨rfl, wi_11⟩
    ·
      refine lv_if_ne (tgt := 36) hx hb dX11_law_23 (by decide) (fun c_12 => ?_) (fun c_12 => ?_)
      rotate_left
      · exact absurd c_12 (by decide)
      obtain rfl : p0 = 0 := pz_eq0 wi_5
      refine lv_aload_n hx hb dX11_law_36 rfl (lv_at hl 0 rfl) ?_
      refine va_get (D := (dC, dI)) (ci := 12) (v := .ref (h 6)) (C := RX11) (T := TX11) (N := 14) hx hb hts hinX11 hown hK hP 0 rfl rfl 5 (by decide) (hts (.fieldLink RX11 31 "LogRiver" "tape" "LLogRiver$Tape;") (by decide +kernel)) (fun _ h9 => h9) rfl dX11_law_37 ?_
      refine lv_iconst (v := 0) hx hb dX11_law_40 (by decide) ?_
      refine va_put (D := (dC, dI)) (ci := 10) (v := .int 0) (ty := .int) (C := RX9) (T := TX9) (N := 2) hx hb hts hinX9 tyX9 tyX9_ok nmX9 hown hK hP hD hS 2 rfl rfl 1 (by decide) (hts (.fieldLink RX11 145 "LogRiver$Tape" "length" "I") (by decide +kernel)) (fun _ h9 => h9) rfl (by decide +kernel) rfl rfl (Nat.le_of_ble_eq_true rfl) dX11_law_41 (fun H locs hP hD hS => ?_)
      have hP : va_P (dC, dI) vwCl [(h 0, .inr (12, [.ref (h 1), .ref (h 2), .ref (h 3), .ref (h 4), .ref (h 5), .ref (h 6), .ref (h 8), .ref (h 12), .ref (h 11), .int 0, .int 0, .int (-1), .long 0, .long 0])), (h 3, .inr (0, [.int 0, .ref e0, .int 0])), (h 6, .inr (10, [.ref (h 7), .int 0])), (h 7, .inl (ca 0, 500, .inl (fun _ => 0))), (h 8, .inr (6, [.ref (h 9), .ref (h 10), .int 0, .int 0, .int 0])), (h 9, .inr (11, [.ref (h 6), .int 0, .int 0, .int 0, .int 0])), (h 10, .inl (ca 1, 500, .inl (fun _ => 0)))] H := hP
      have hD : va_D A [(h 0, .inr (12, [.ref (h 1), .ref (h 2), .ref (h 3), .ref (h 4), .ref (h 5), .ref (h 6), .ref (h 8), .ref (h 12), .ref (h 11), .int 0, .int 0, .int (-1), .long 0, .long 0])), (h 3, .inr (0, [.int 0, .ref e0, .int 0])), (h 6, .inr (10, [.ref (h 7), .int 0])), (h 7, .inl (ca 0, 500, .inl (fun _ => 0))), (h 8, .inr (6, [.ref (h 9), .ref (h 10), .int 0, .int 0, .int 0])), (h 9, .inr (11, [.ref (h 6), .int 0, .int 0, .int 0, .int 0])), (h 10, .inl (ca 1, 500, .inl (fun _ => 0)))] := hD
      refine lv_aload_n hx hb dX11_law_44 rfl (lv_at hl 0 rfl) ?_
      refine lv_iconst (v := (-1)) hx hb dX11_law_45 (by decide) ?_
      refine va_put (D := (dC, dI)) (ci := 12) (v := .int (-1)) (ty := .int) (C := RX11) (T := TX11) (N := 14) hx hb hts hinX11 tyX11 tyX11_ok nmX11 hown hK hP hD hS 0 rfl rfl 11 (by decide) (hts (.fieldLink RX11 55 "LogRiver" "faultPlace" "I") (by decide +kernel)) (fun _ h9 => h9) rfl (by decide +kernel) rfl rfl (Nat.le_of_ble_eq_true rfl) dX11_law_46 (fun H locs hP hD hS => ?_)
      have hP : va_P (dC, dI) vwCl [(h 0, .inr (12, [.ref (h 1), .ref (h 2), .ref (h 3), .ref (h 4), .ref (h 5), .ref (h 6), .ref (h 8), .ref (h 12), .ref (h 11), .int 0, .int 0, .int (-1), .long 0, .long 0])), (h 3, .inr (0, [.int 0, .ref e0, .int 0])), (h 6, .inr (10, [.ref (h 7), .int 0])), (h 7, .inl (ca 0, 500, .inl (fun _ => 0))), (h 8, .inr (6, [.ref (h 9), .ref (h 10), .int 0, .int 0, .int 0])), (h 9, .inr (11, [.ref (h 6), .int 0, .int 0, .int 0, .int 0])), (h 10, .inl (ca 1, 500, .inl (fun _ => 0)))] H := hP
      have hD : va_D A [(h 0, .inr (12, [.ref (h 1), .ref (h 2), .ref (h 3), .ref (h 4), .ref (h 5), .ref (h 6), .ref (h 8), .ref (h 12), .ref (h 11), .int 0, .int 0, .int (-1), .long 0, .long 0])), (h 3, .inr (0, [.int 0, .ref e0, .int 0])), (h 6, .inr (10, [.ref (h 7), .int 0])), (h 7, .inl (ca 0, 500, .inl (fun _ => 0))), (h 8, .inr (6, [.ref (h 9), .ref (h 10), .int 0, .int 0, .int 0])), (h 9, .inr (11, [.ref (h 6), .int 0, .int 0, .int 0, .int 0])), (h 10, .inl (ca 1, 500, .inl (fun _ => 0)))] := hD
      refine lv_aload_n hx hb dX11_law_49 rfl (lv_at hl 0 rfl) ?_
      refine va_get (D := (dC, dI)) (ci := 12) (v := .ref (h 3)) (C := RX11) (T := TX11) (N := 14) hx hb hts hinX11 hown hK hP 0 rfl rfl 2 (by decide) (hts (.fieldLink RX11 19 "LogRiver" "laws" "Ljava/util/List;") (by decide +kernel)) (fun _ h9 => h9) rfl dX11_law_50 ?_
      have hPc := hP.sub (ws' := [(h 3, .inr (0, [.int 0, .ref e0, .int 0]))]) [1] rfl
      have hDc := hD.sub (ws' := [(h 3, .inr (0, [.int 0, .ref e0, .int 0]))]) [1] (by decide) rfl
      have hKc := hK.sub (tys' := []) [] rfl
      have hFc := va_free (wc := [(h 3, .inr (0, [.int 0, .ref e0, .int 0]))]) hD hS hA [1] rfl
      refine va_callFi (va_runF (As := []) (rest := []) (hK.1 0 _ rfl).2 ⟨hx, hb, hml, hown, hts⟩ (c_Jx4a65c_size_8abf5 l hlt e0 dC dI H.size (h 3) 0 (.ref e0) 0) (va_cwF 0 hts gX11_law_Jx4a65c_size_8abf5_f59Jx4a65c rfl rfl rfl hV.2.1 (by decide +kernel) ⟨Nat.le_of_ble_eq_true rfl, Nat.le_of_ble_eq_true rfl⟩) (pz_preV [] hPc hDc hKc hZ hV hT hS hFc (va_recv hKc hPc (ci := 0) (q0 := 0) rfl rfl)) rfl rfl hl.1 rfl (lv_room (Nat.le_of_ble_eq_true rfl)) dX11_law_53 ⟨Nat.le_of_ble_eq_true rfl, Nat.le_of_ble_eq_true rfl⟩) hS (fun q _ h => hFc q h) hFc (fun r_13 u_14 t H locs ht hvm hw_15 hB_16 hz1 hk1 hS => ?_)
      obtain ⟨hP1, hD1⟩ := hB_16
      rw [ht] at hP1
      obtain ⟨hP, hD⟩ := va_join (wr := [(h 0, .inr (12, [.ref (h 1), .ref (h 2), .ref (h 3), .ref (h 4), .ref (h 5), .ref (h 6), .ref (h 8), .ref (h 12), .ref (h 11), .int 0, .int 0, .int (-1), .long 0, .long 0])), (h 6, .inr (10, [.ref (h 7), .int 0])), (h 7, .inl (ca 0, 500, .inl (fun _ => 0))), (h 8, .inr (6, [.ref (h 9), .ref (h 10), .int 0, .int 0, .int 0])), (h 9, .inr (11, [.ref (h 6), .int 0, .int 0, .int 0, .int 0])), (h 10, .inl (ca 1, 500, .inl (fun _ => 0)))]) (w1 := [(h 3, .inr (0, [.int 0, .ref e0, .int 0]))]) hP hD [1] [0, 2, 3, 4, 5, 6] rfl rfl (by decide) (by decide) hk1 hFc hP1 hD1
      have hP : va_P (dC, dI) vwCl [(h 0, .inr (12, [.ref (h 1), .ref (h 2), .ref (h 3), .ref (h 4), .ref (h 5), .ref (h 6), .ref (h 8), .ref (h 12), .ref (h 11), .int 0, .int 0, .int (-1), .long 0, .long 0])), (h 6, .inr (10, [.ref (h 7), .int 0])), (h 7, .inl (ca 0, 500, .inl (fun _ => 0))), (h 8, .inr (6, [.ref (h 9), .ref (h 10), .int 0, .int 0, .int 0])), (h 9, .inr (11, [.ref (h 6), .int 0, .int 0, .int 0, .int 0])), (h 10, .inl (ca 1, 500, .inl (fun _ => 0))), (h 3, .inr (0, [.int 0, .ref e0, .int 0]))] H := hP
      have hD : va_D A [(h 0, .inr (12, [.ref (h 1), .ref (h 2), .ref (h 3), .ref (h 4), .ref (h 5), .ref (h 6), .ref (h 8), .ref (h 12), .ref (h 11), .int 0, .int 0, .int (-1), .long 0, .long 0])), (h 6, .inr (10, [.ref (h 7), .int 0])), (h 7, .inl (ca 0, 500, .inl (fun _ => 0))), (h 8, .inr (6, [.ref (h 9), .ref (h 10), .int 0, .int 0, .int 0])), (h 9, .inr (11, [.ref (h 6), .int 0, .int 0, .int 0, .int 0])), (h 10, .inl (ca 1, 500, .inl (fun _ => 0))), (h 3, .inr (0, [.int 0, .ref e0, .int 0]))] := hD
      subst hw_15
      refine lv_bipush (v := 6) hx hb dX11_law_58 (by decide) ?_
      refine lv_icmp_lt (tgt := 66) hx hb dX11_law_60 (by decide) (fun c_17 => ?_) (fun c_17 => ?_)
      rotate_left
      · exact absurd c_17 (by decide)
      refine lv_aload_n hx hb dX11_law_66 rfl (lv_at hl 0 rfl) ?_
      refine va_get (D := (dC, dI)) (ci := 12) (v := .ref (h 8)) (C := RX11) (T := TX11) (N := 14) hx hb hts hinX11 hown hK hP 0 rfl rfl 6 (by decide) (hts (.fieldLink RX11 40 "LogRiver" "reader" "LLogRiver$LawReader;") (by decide +kernel)) (fun _ h9 => h9) rfl dX11_law_67 ?_
      refine lv_iload_n hx hb dX11_law_70 rfl (lv_at hl 1 rfl) ?_
      have hPc := hP.sub (ws' := [(h 8, .inr (6, [.ref (h 9), .ref (h 10), .int 0, .int 0, .int 0])), (h 9, .inr (11, [.ref (h 6), .int 0, .int 0, .int 0, .int 0]))]) [3, 4] rfl
      have hDc := hD.sub (ws' := [(h 8, .inr (6, [.ref (h 9), .ref (h 10), .int 0, .int 0, .int 0])), (h 9, .inr (11, [.ref (h 6), .int 0, .int 0, .int 0, .int 0]))]) [3, 4] (by decide) rfl
      have hKc := hK.sub (tys' := []) [] rfl
      have hFc := va_free (wc := [(h 8, .inr (6, [.ref (h 9), .ref (h 10), .int 0, .int 0, .int 0])), (h 9, .inr (11, [.ref (h 6), .int 0, .int 0, .int 0, .int 0]))]) hD hS hA [3, 4] rfl
      refine va_callv (va_runV (As := [.int 0]) (rest := []) ⟨hx, hb, hml, hown, hts⟩ (c_X5_readText l hlt e0 dC dI H.size (h 8) (h 10) (h 9) (h 6)) (cwV 1 hts gX11_law_X5_readText rfl rfl rfl (by decide +kernel) ⟨Nat.le_of_ble_eq_true rfl, Nat.le_of_ble_eq_true rfl⟩) (pz_preV [.int 0] hPc hDc hKc hZ hV hT hS hFc (va_recv hKc hPc (ci := 6) (q0 := 0) rfl rfl)) rfl rfl hl.1 rfl (lv_room (Nat.le_of_ble_eq_true rfl)) dX11_law_71 ⟨Nat.le_of_ble_eq_true rfl, Nat.le_of_ble_eq_true rfl⟩) hS (fun q _ h => hFc q h) hFc (fun u_19 t H locs ht hvm hw_20 hB_21 hz1 hk1 hS => ?_)
      obtain ⟨hP1, hD1⟩ := hB_21
      rw [ht] at hP1
      obtain ⟨hP, hD⟩ := va_join (wr := [(h 0, .inr (12, [.ref (h 1), .ref (h 2), .ref (h 3), .ref (h 4), .ref (h 5), .ref (h 6), .ref (h 8), .ref (h 12), .ref (h 11), .int 0, .int 0, .int (-1), .long 0, .long 0])), (h 6, .inr (10, [.ref (h 7), .int 0])), (h 7, .inl (ca 0, 500, .inl (fun _ => 0))), (h 10, .inl (ca 1, 500, .inl (fun _ => 0))), (h 3, .inr (0, [.int 0, .ref e0, .int 0]))]) (w1 := [(h 8, .inr (6, [.ref (h 9), .ref (h 10), .int 0, .int 0, .int (-1)])), (h 9, .inr (11, [.ref (h 6), .int 0, .int 0, .int 0, .int 0]))]) hP hD [3, 4] [0, 1, 2, 5, 6] rfl rfl (by decide) (by decide) hk1 hFc hP1 hD1
      have hP : va_P (dC, dI) vwCl [(h 0, .inr (12, [.ref (h 1), .ref (h 2), .ref (h 3), .ref (h 4), .ref (h 5), .ref (h 6), .ref (h 8), .ref (h 12), .ref (h 11), .int 0, .int 0, .int (-1), .long 0, .long 0])), (h 6, .inr (10, [.ref (h 7), .int 0])), (h 7, .inl (ca 0, 500, .inl (fun _ => 0))), (h 10, .inl (ca 1, 500, .inl (fun _ => 0))), (h 3, .inr (0, [.int 0, .ref e0, .int 0])), (h 8, .inr (6, [.ref (h 9), .ref (h 10), .int 0, .int 0, .int (-1)])), (h 9, .inr (11, [.ref (h 6), .int 0, .int 0, .int 0, .int 0]))] H := hP
      have hD : va_D A [(h 0, .inr (12, [.ref (h 1), .ref (h 2), .ref (h 3), .ref (h 4), .ref (h 5), .ref (h 6), .ref (h 8), .ref (h 12), .ref (h 11), .int 0, .int 0, .int (-1), .long 0, .long 0])), (h 6, .inr (10, [.ref (h 7), .int 0])), (h 7, .inl (ca 0, 500, .inl (fun _ => 0))), (h 10, .inl (ca 1, 500, .inl (fun _ => 0))), (h 3, .inr (0, [.int 0, .ref e0, .int 0])), (h 8, .inr (6, [.ref (h 9), .ref (h 10), .int 0, .int 0, .int (-1)])), (h 9, .inr (11, [.ref (h 6), .int 0, .int 0, .int 0, .int 0]))] := hD
      refine lv_aload_n hx hb dX11_law_74 rfl (lv_at hl 0 rfl) ?_
      refine va_get (D := (dC, dI)) (ci := 12) (v := .ref (h 8)) (C := RX11) (T := TX11) (N := 14) hx hb hts hinX11 hown hK hP 0 rfl rfl 6 (by decide) (hts (.fieldLink RX11 40 "LogRiver" "reader" "LLogRiver$LawReader;") (by decide +kernel)) (fun _ h9 => h9) rfl dX11_law_75 ?_
      refine va_get (D := (dC, dI)) (ci := 6) (v := .int 0) (C := RX5) (T := TX5) (N := 5) hx hb hts hinX5 hown hK hP 5 rfl rfl 3 (by decide) (hts (.fieldLink RX11 161 "LogRiver$LawReader" "fault" "I") (by decide +kernel)) (fun _ h9 => h9) rfl dX11_law_78 ?_
      refine lv_if_eq (tgt := 105) hx hb dX11_law_81 (by decide) (fun c_22 => ?_) (fun c_22 => ?_)
      rotate_left
      · exact absurd c_22 (by decide)
      refine lv_aload_n hx hb dX11_law_105 rfl (lv_at hl 0 rfl) ?_
      refine va_get (D := (dC, dI)) (ci := 12) (v := .ref (h 3)) (C := RX11) (T := TX11) (N := 14) hx hb hts hinX11 hown hK hP 0 rfl rfl 2 (by decide) (hts (.fieldLink RX11 19 "LogRiver" "laws" "Ljava/util/List;") (by decide +kernel)) (fun _ h9 => h9) rfl dX11_law_106 ?_
      refine va_new (ci := 5) (fs := [.int 0, .null]) (C := RX4) (T := TX4) (N := 2) hx hb hts hinX4 tyX4 tyX4_ok hown (hts (.classLink RX11 165 RX4) (by decide +kernel)) (hts (.instantiable RX4 2) (by decide +kernel)) (hts (.initialized RX4) (by decide +kernel)) hK hP hD hS hA rfl dfX4 (Nat.le_of_ble_eq_true rfl) (Nat.le_of_ble_eq_true rfl) dX11_law_109 (fun q_23 H hP hD hS => ?_)
      have hP : va_P (dC, dI) vwCl [(h 0, .inr (12, [.ref (h 1), .ref (h 2), .ref (h 3), .ref (h 4), .ref (h 5), .ref (h 6), .ref (h 8), .ref (h 12), .ref (h 11), .int 0, .int 0, .int (-1), .long 0, .long 0])), (h 6, .inr (10, [.ref (h 7), .int 0])), (h 7, .inl (ca 0, 500, .inl (fun _ => 0))), (h 10, .inl (ca 1, 500, .inl (fun _ => 0))), (h 3, .inr (0, [.int 0, .ref e0, .int 0])), (h 8, .inr (6, [.ref (h 9), .ref (h 10), .int 0, .int 0, .int (-1)])), (h 9, .inr (11, [.ref (h 6), .int 0, .int 0, .int 0, .int 0])), (q_23, .inr (5, [.int 0, .null]))] H := hP
      have hD : va_D A [(h 0, .inr (12, [.ref (h 1), .ref (h 2), .ref (h 3), .ref (h 4), .ref (h 5), .ref (h 6), .ref (h 8), .ref (h 12), .ref (h 11), .int 0, .int 0, .int (-1), .long 0, .long 0])), (h 6, .inr (10, [.ref (h 7), .int 0])), (h 7, .inl (ca 0, 500, .inl (fun _ => 0))), (h 10, .inl (ca 1, 500, .inl (fun _ => 0))), (h 3, .inr (0, [.int 0, .ref e0, .int 0])), (h 8, .inr (6, [.ref (h 9), .ref (h 10), .int 0, .int 0, .int (-1)])), (h 9, .inr (11, [.ref (h 6), .int 0, .int 0, .int 0, .int 0])), (q_23, .inr (5, [.int 0, .null]))] := hD
      refine lv_dup hx hb dX11_law_112 rfl ?_
      refine lv_iload_n hx hb dX11_law_113 rfl (lv_at hl 2 rfl) ?_
      refine lv_aload_n hx hb dX11_law_114 rfl (lv_at hl 0 rfl) ?_
      refine va_get (D := (dC, dI)) (ci := 12) (v := .ref (h 8)) (C := RX11) (T := TX11) (N := 14) hx hb hts hinX11 hown hK hP 0 rfl rfl 6 (by decide) (hts (.fieldLink RX11 40 "LogRiver" "reader" "LLogRiver$LawReader;") (by decide +kernel)) (fun _ h9 => h9) rfl dX11_law_115 ?_
      refine va_get (D := (dC, dI)) (ci := 6) (v := .ref (h 10)) (C := RX5) (T := TX5) (N := 5) hx hb hts hinX5 hown hK hP 5 rfl rfl 1 (by decide) (hts (.fieldLink RX11 167 "LogRiver$LawReader" "code" "[I") (by decide +kernel)) (fun _ h9 => h9) rfl dX11_law_118 ?_
      refine lv_aload_n hx hb dX11_law_121 rfl (lv_at hl 0 rfl) ?_
      refine va_get (D := (dC, dI)) (ci := 12) (v := .ref (h 8)) (C := RX11) (T := TX11) (N := 14) hx hb hts hinX11 hown hK hP 0 rfl rfl 6 (by decide) (hts (.fieldLink RX11 40 "LogRiver" "reader" "LLogRiver$LawReader;") (by decide +kernel)) (fun _ h9 => h9) rfl dX11_law_122 ?_
      refine va_get (D := (dC, dI)) (ci := 6) (v := .int 0) (C := RX5) (T := TX5) (N := 5) hx hb hts hinX5 hown hK hP 5 rfl rfl 2 (by decide) (hts (.fieldLink RX11 171 "LogRiver$LawReader" "codeLength" "I") (by decide +kernel)) (fun _ h9 => h9) rfl dX11_law_125 ?_
      have hPc := hP.sub (ws' := [(h 10, .inl (ca 1, 500, .inl (fun _ => 0)))]) [3] rfl
      have hDc := hD.sub (ws' := [(h 10, .inl (ca 1, 500, .inl (fun _ => 0)))]) [3] (by decide) rfl
      have hKc := hK.sub (tys' := [(ca 1, .int)]) [1] rfl
      have hFc := va_free (wc := [(h 10, .inl (ca 1, 500, .inl (fun _ => 0)))]) hD hS hA [3] rfl
      refine va_callr (va_runS (As := [.ref (h 10), .int 0]) (rest := [.int p1, .ref q_23, .ref q_23, .ref (h 3)]) ⟨hx, hb, hml, hown, hts⟩ (c_J7_copyOf_59c91 l hlt e0 dC dI H.size (h 10) (ca 1) (fun _ => 0)) (va_cwS 2 hts gX11_law_J7_copyOf_59c91 rfl rfl rfl (by decide +kernel) ⟨Nat.le_of_ble_eq_true rfl, Nat.le_of_ble_eq_true rfl⟩) (pz_preS [.ref (h 10), .int 0] hPc hDc hKc hZ hV hT hS hFc) rfl rfl hl.1 rfl (lv_room (Nat.le_of_ble_eq_true rfl)) dX11_law_128 ⟨Nat.le_of_ble_eq_true rfl, Nat.le_of_ble_eq_true rfl⟩) hS (fun q _ h => hFc q h) hFc (fun u_25 r_24 t H locs ht hvm hw_26 hB_27 hz1 hk1 hS => ?_)
      obtain ⟨hP, hD⟩ := pz_rest (wr := [(h 0, .inr (12, [.ref (h 1), .ref (h 2), .ref (h 3), .ref (h 4), .ref (h 5), .ref (h 6), .ref (h 8), .ref (h 12), .ref (h 11), .int 0, .int 0, .int (-1), .long 0, .long 0])), (h 6, .inr (10, [.ref (h 7), .int 0])), (h 7, .inl (ca 0, 500, .inl (fun _ => 0))), (h 3, .inr (0, [.int 0, .ref e0, .int 0])), (h 8, .inr (6, [.ref (h 9), .ref (h 10), .int 0, .int 0, .int (-1)])), (h 9, .inr (11, [.ref (h 6), .int 0, .int 0, .int 0, .int 0])), (q_23, .inr (5, [.int 0, .null]))]) hP hD [3] [0, 1, 2, 4, 5, 6, 7] rfl rfl (by decide) (by decide) hk1 hFc
      have hPc := hP.sub (ws' := [(q_23, .inr (5, [.int 0, .null]))]) [6] rfl
      have hDc := hD.sub (ws' := [(q_23, .inr (5, [.int 0, .null]))]) [6] (by decide) rfl
      have hKc := hK.sub (tys' := []) [] rfl
      have hFc := va_free (wc := [(q_23, .inr (5, [.int 0, .null]))]) hD hS hA [6] rfl
      refine va_callv (va_runI (As := [.int p1, .ref r_24]) (rest := [.ref q_23, .ref (h 3)]) ⟨hx, hb, hml, hown, hts⟩ (c_X4_init l hlt e0 dC dI H.size q_23 r_24 p1) (cwI 2 hts gX11_law_X4_init rfl rfl rfl (hts (.initialized RX4) (by decide +kernel)) (hts (.methodLink RX11 180 yX4_init) (by decide +kernel)) (hts (.instanceMethod yX4_init) (by decide +kernel)) rfl (by decide +kernel) ⟨Nat.le_of_ble_eq_true rfl, Nat.le_of_ble_eq_true rfl⟩) (pz_preS [.ref q_23, .int p1, .ref r_24] hPc hDc hKc hZ hV hT hS hFc) rfl rfl hl.1 rfl (lv_room (Nat.le_of_ble_eq_true rfl)) dX11_law_131 ⟨Nat.le_of_ble_eq_true rfl, Nat.le_of_ble_eq_true rfl⟩) hS (fun q _ h => hFc q h) hFc (fun u_29 t H locs ht hvm hw_30 hB_31 hz1 hk1 hS => ?_)
      obtain ⟨hP1, hD1⟩ := hB_31
      rw [ht] at hP1
      obtain ⟨hP, hD⟩ := va_join (wr := [(h 0, .inr (12, [.ref (h 1), .ref (h 2), .ref (h 3), .ref (h 4), .ref (h 5), .ref (h 6), .ref (h 8), .ref (h 12), .ref (h 11), .int 0, .int 0, .int (-1), .long 0, .long 0])), (h 6, .inr (10, [.ref (h 7), .int 0])), (h 7, .inl (ca 0, 500, .inl (fun _ => 0))), (h 3, .inr (0, [.int 0, .ref e0, .int 0])), (h 8, .inr (6, [.ref (h 9), .ref (h 10), .int 0, .int 0, .int (-1)])), (h 9, .inr (11, [.ref (h 6), .int 0, .int 0, .int 0, .int 0]))]) (w1 := [(q_23, .inr (5, [.int p1, .ref r_24]))]) hP hD [6] [0, 1, 2, 3, 4, 5] rfl rfl (by decide) (by decide) hk1 hFc hP1 hD1
      have hP : va_P (dC, dI) vwCl [(h 0, .inr (12, [.ref (h 1), .ref (h 2), .ref (h 3), .ref (h 4), .ref (h 5), .ref (h 6), .ref (h 8), .ref (h 12), .ref (h 11), .int 0, .int 0, .int (-1), .long 0, .long 0])), (h 6, .inr (10, [.ref (h 7), .int 0])), (h 7, .inl (ca 0, 500, .inl (fun _ => 0))), (h 3, .inr (0, [.int 0, .ref e0, .int 0])), (h 8, .inr (6, [.ref (h 9), .ref (h 10), .int 0, .int 0, .int (-1)])), (h 9, .inr (11, [.ref (h 6), .int 0, .int 0, .int 0, .int 0])), (q_23, .inr (5, [.int p1, .ref r_24]))] H := hP
      have hD : va_D A [(h 0, .inr (12, [.ref (h 1), .ref (h 2), .ref (h 3), .ref (h 4), .ref (h 5), .ref (h 6), .ref (h 8), .ref (h 12), .ref (h 11), .int 0, .int 0, .int (-1), .long 0, .long 0])), (h 6, .inr (10, [.ref (h 7), .int 0])), (h 7, .inl (ca 0, 500, .inl (fun _ => 0))), (h 3, .inr (0, [.int 0, .ref e0, .int 0])), (h 8, .inr (6, [.ref (h 9), .ref (h 10), .int 0, .int 0, .int (-1)])), (h 9, .inr (11, [.ref (h 6), .int 0, .int 0, .int 0, .int 0])), (q_23, .inr (5, [.int p1, .ref r_24]))] := hD
      have hPc := hP.sub (ws' := [(h 3, .inr (0, [.int 0, .ref e0, .int 0])), (q_23, .inr (5, [.int p1, .ref r_24]))]) [3, 6] rfl
      have hDc := hD.sub (ws' := [(h 3, .inr (0, [.int 0, .ref e0, .int 0])), (q_23, .inr (5, [.int p1, .ref r_24]))]) [3, 6] (by decide) rfl
      have hKc := hK.sub (tys' := []) [] rfl
      have hFc := va_free (wc := [(h 3, .inr (0, [.int 0, .ref e0, .int 0])), (q_23, .inr (5, [.int p1, .ref r_24]))]) hD hS hA [3, 6] rfl
      refine va_callFi (va_runF (As := [.ref q_23]) (rest := []) (hK.1 0 _ rfl).2 ⟨hx, hb, hml, hown, hts⟩ (c_add0_X4 l hlt e0 dC dI H.size (h 3) 0 q_23 [.int p1, .ref r_24]) (va_cwF 1 hts gX11_law_Jx4a65c_add_9ea2d_f86Jx4a65c rfl rfl rfl hV.2.2.1 (by decide +kernel) ⟨Nat.le_of_ble_eq_true rfl, Nat.le_of_ble_eq_true rfl⟩) (pz_preV [.ref q_23] hPc hDc hKc hZ hV hT hS hFc (va_recv hKc hPc (ci := 0) (q0 := 0) rfl rfl)) rfl rfl hl.1 rfl (lv_room (Nat.le_of_ble_eq_true rfl)) dX11_law_134 ⟨Nat.le_of_ble_eq_true rfl, Nat.le_of_ble_eq_true rfl⟩) hS (fun q _ h => hFc q h) hFc (fun r_32 u_33 t H locs ht hvm hw_34 hB_35 hz1 hk1 hS => ?_)
      obtain ⟨mdu_33, rau_33, cru_33, fru_33⟩ := u_33
      obtain ⟨hP1, hD1, hK1⟩ := hB_35
      rw [ht] at hP1
      have hK := (hK.app (va_K.moved hvm.symm hK1))
      obtain ⟨hP, hD⟩ := va_join (wr := [(h 0, .inr (12, [.ref (h 1), .ref (h 2), .ref (h 3), .ref (h 4), .ref (h 5), .ref (h 6), .ref (h 8), .ref (h 12), .ref (h 11), .int 0, .int 0, .int (-1), .long 0, .long 0])), (h 6, .inr (10, [.ref (h 7), .int 0])), (h 7, .inl (ca 0, 500, .inl (fun _ => 0))), (h 8, .inr (6, [.ref (h 9), .ref (h 10), .int 0, .int 0, .int (-1)])), (h 9, .inr (11, [.ref (h 6), .int 0, .int 0, .int 0, .int 0]))]) (w1 := [(h 3, .inr (0, [.int mdu_33, .ref rau_33, .int 1])), (rau_33, .inl (cru_33, 10, .inr (.inr (.inr (.inr fru_33))))), (q_23, .inr (5, [.int p1, .ref r_24]))]) hP hD [3, 6] [0, 1, 2, 4, 5] rfl rfl (by decide) (by decide) hk1 hFc hP1 hD1
      have hK : va_K (dC, dI) vwCl [(ca 0, .int), (ca 1, .int), (cru_33, .object "java/lang/Object")] s := hK
      have hP : va_P (dC, dI) vwCl [(h 0, .inr (12, [.ref (h 1), .ref (h 2), .ref (h 3), .ref (h 4), .ref (h 5), .ref (h 6), .ref (h 8), .ref (h 12), .ref (h 11), .int 0, .int 0, .int (-1), .long 0, .long 0])), (h 6, .inr (10, [.ref (h 7), .int 0])), (h 7, .inl (ca 0, 500, .inl (fun _ => 0))), (h 8, .inr (6, [.ref (h 9), .ref (h 10), .int 0, .int 0, .int (-1)])), (h 9, .inr (11, [.ref (h 6), .int 0, .int 0, .int 0, .int 0])), (h 3, .inr (0, [.int mdu_33, .ref rau_33, .int 1])), (rau_33, .inl (cru_33, 10, .inr (.inr (.inr (.inr fru_33))))), (q_23, .inr (5, [.int p1, .ref r_24]))] H := hP
      have hD : va_D A [(h 0, .inr (12, [.ref (h 1), .ref (h 2), .ref (h 3), .ref (h 4), .ref (h 5), .ref (h 6), .ref (h 8), .ref (h 12), .ref (h 11), .int 0, .int 0, .int (-1), .long 0, .long 0])), (h 6, .inr (10, [.ref (h 7), .int 0])), (h 7, .inl (ca 0, 500, .inl (fun _ => 0))), (h 8, .inr (6, [.ref (h 9), .ref (h 10), .int 0, .int 0, .int (-1)])), (h 9, .inr (11, [.ref (h 6), .int 0, .int 0, .int 0, .int 0])), (h 3, .inr (0, [.int mdu_33, .ref rau_33, .int 1])), (rau_33, .inl (cru_33, 10, .inr (.inr (.inr (.inr fru_33))))), (q_23, .inr (5, [.int p1, .ref r_24]))] := hD
      subst hw_34
      refine lv_pop hx hb dX11_law_139 rfl ?_
      refine lv_aload_n hx hb dX11_law_140 rfl (lv_at hl 0 rfl) ?_
      refine va_get (D := (dC, dI)) (ci := 12) (v := .ref (h 3)) (C := RX11) (T := TX11) (N := 14) hx hb hts hinX11 hown hK hP 0 rfl rfl 2 (by decide) (hts (.fieldLink RX11 19 "LogRiver" "laws" "Ljava/util/List;") (by decide +kernel)) (fun _ h9 => h9) rfl dX11_law_141 ?_
      have hPc := hP.sub (ws' := [(h 3, .inr (0, [.int mdu_33, .ref rau_33, .int 1]))]) [5] rfl
      have hDc := hD.sub (ws' := [(h 3, .inr (0, [.int mdu_33, .ref rau_33, .int 1]))]) [5] (by decide) rfl
      have hKc := hK.sub (tys' := []) [] rfl
      have hFc := va_free (wc := [(h 3, .inr (0, [.int mdu_33, .ref rau_33, .int 1]))]) hD hS hA [5] rfl
      refine va_callFi (va_runF (As := []) (rest := []) (hK.1 0 _ rfl).2 ⟨hx, hb, hml, hown, hts⟩ (c_Jx4a65c_size_8abf5 l hlt e0 dC dI H.size (h 3) mdu_33 (.ref rau_33) 1) (va_cwF 0 hts gX11_law_Jx4a65c_size_8abf5_f59Jx4a65c rfl rfl rfl hV.2.1 (by decide +kernel) ⟨Nat.le_of_ble_eq_true rfl, Nat.le_of_ble_eq_true rfl⟩) (pz_preV [] hPc hDc hKc hZ hV hT hS hFc (va_recv hKc hPc (ci := 0) (q0 := 0) rfl rfl)) rfl rfl hl.1 rfl (lv_room (Nat.le_of_ble_eq_true rfl)) dX11_law_144 ⟨Nat.le_of_ble_eq_true rfl, Nat.le_of_ble_eq_true rfl⟩) hS (fun q _ h => hFc q h) hFc (fun r_36 u_37 t H locs ht hvm hw_38 hB_39 hz1 hk1 hS => ?_)
      obtain ⟨hP1, hD1⟩ := hB_39
      rw [ht] at hP1
      obtain ⟨hP, hD⟩ := va_join (wr := [(h 0, .inr (12, [.ref (h 1), .ref (h 2), .ref (h 3), .ref (h 4), .ref (h 5), .ref (h 6), .ref (h 8), .ref (h 12), .ref (h 11), .int 0, .int 0, .int (-1), .long 0, .long 0])), (h 6, .inr (10, [.ref (h 7), .int 0])), (h 7, .inl (ca 0, 500, .inl (fun _ => 0))), (h 8, .inr (6, [.ref (h 9), .ref (h 10), .int 0, .int 0, .int (-1)])), (h 9, .inr (11, [.ref (h 6), .int 0, .int 0, .int 0, .int 0])), (rau_33, .inl (cru_33, 10, .inr (.inr (.inr (.inr fru_33))))), (q_23, .inr (5, [.int p1, .ref r_24]))]) (w1 := [(h 3, .inr (0, [.int mdu_33, .ref rau_33, .int 1]))]) hP hD [5] [0, 1, 2, 3, 4, 6, 7] rfl rfl (by decide) (by decide) hk1 hFc hP1 hD1
      have hP : va_P (dC, dI) vwCl [(h 0, .inr (12, [.ref (h 1), .ref (h 2), .ref (h 3), .ref (h 4), .ref (h 5), .ref (h 6), .ref (h 8), .ref (h 12), .ref (h 11), .int 0, .int 0, .int (-1), .long 0, .long 0])), (h 6, .inr (10, [.ref (h 7), .int 0])), (h 7, .inl (ca 0, 500, .inl (fun _ => 0))), (h 8, .inr (6, [.ref (h 9), .ref (h 10), .int 0, .int 0, .int (-1)])), (h 9, .inr (11, [.ref (h 6), .int 0, .int 0, .int 0, .int 0])), (rau_33, .inl (cru_33, 10, .inr (.inr (.inr (.inr fru_33))))), (q_23, .inr (5, [.int p1, .ref r_24])), (h 3, .inr (0, [.int mdu_33, .ref rau_33, .int 1]))] H := hP
      have hD : va_D A [(h 0, .inr (12, [.ref (h 1), .ref (h 2), .ref (h 3), .ref (h 4), .ref (h 5), .ref (h 6), .ref (h 8), .ref (h 12), .ref (h 11), .int 0, .int 0, .int (-1), .long 0, .long 0])), (h 6, .inr (10, [.ref (h 7), .int 0])), (h 7, .inl (ca 0, 500, .inl (fun _ => 0))), (h 8, .inr (6, [.ref (h 9), .ref (h 10), .int 0, .int 0, .int (-1)])), (h 9, .inr (11, [.ref (h 6), .int 0, .int 0, .int 0, .int 0])), (rau_33, .inl (cru_33, 10, .inr (.inr (.inr (.inr fru_33))))), (q_23, .inr (5, [.int p1, .ref r_24])), (h 3, .inr (0, [.int mdu_33, .ref rau_33, .int 1]))] := hD
      subst hw_38
      refine lv_iconst (v := 1) hx hb dX11_law_149 (by decide) ?_
      refine lv_isub hx hb dX11_law_150 ?_
      refine lv_topi (fun x_40 ex_40 => ?_)
      obtain rfl : x_40 = 0 := ex_40.trans (by decide)
      refine W.widen (k := 3) (n := 12) (Nat.le_of_ble_eq_true rfl) (Nat.le_of_ble_eq_true rfl) ?_
      refine vx_ret ?_
      exact W.iret (v := 0) hx hb hr (fun t ht hW => ⟨⟨0, (), rfl, ⟨rfl, wi_5, wi_11⟩, trivial⟩, hS.F ht⟩) hS.2.2 dX11_law_151
    ·
      refine lv_if_ne (tgt := 36) hx hb dX11_law_23 (by decide) (fun c_41 => ?_) (fun c_41 => ?_)
      · exact absurd c_41 (by decide)
      exact pz_throwI (is := 153) (text := "the tape has not so many bytes, or there is no such day") (cnd := ¬ ((0 ≤ p0 ∧ p0 ≤ 0) ∧ (0 ≤ p1 ∧ p1 ≤ 1000))) (fun h9 => wi_11 h9.2) (by decide +kernel) hx hb hlt hown hts (by decide +kernel) (by decide +kernel) (fun w h => by unfold wsX11_law; simp only [List.mem_cons, List.mem_append, h, or_true, true_or]) hV hZ hS (hl.1.trans hml.symm) dX11_law_26 dX11_law_29 dX11_law_30 dX11_law_32 dX11_law_35 hout (Nat.le_of_ble_eq_true rfl) (Nat.le_of_ble_eq_true rfl) (Nat.le_of_ble_eq_true rfl) (Nat.le_of_ble_eq_true rfl) hlocks (Nat.le_of_ble_eq_true rfl) (Nat.le_of_ble_eq_true rfl)
  ·
    refine lv_if_eq (tgt := 26) hx hb dX11_law_12 (by decide) (fun c_42 => ?_) (fun c_42 => ?_)
    rotate_left
    · exact absurd c_42 (by decide)
    exact pz_throwI (is := 153) (text := "the tape has not so many bytes, or there is no such day") (cnd := ¬ ((0 ≤ p0 ∧ p0 ≤ 0) ∧ (0 ≤ p1 ∧ p1 ≤ 1000))) (fun h9 => wi_5 h9.1) (by decide +kernel) hx hb hlt hown hts (by decide +kernel) (by decide +kernel) (fun w h => by unfold wsX11_law; simp only [List.mem_cons, List.mem_append, h, or_true, true_or]) hV hZ hS (hl.1.trans hml.symm) dX11_law_26 dX11_law_29 dX11_law_30 dX11_law_32 dX11_law_35 hout (Nat.le_of_ble_eq_true rfl) (Nat.le_of_ble_eq_true rfl) (Nat.le_of_ble_eq_true rfl) (Nat.le_of_ble_eq_true rfl) hlocks (Nat.le_of_ble_eq_true rfl) (Nat.le_of_ble_eq_true rfl)
set_option maxHeartbeats 8000000 in
set_option maxRecDepth 100000 in
/-- the wrapper of law -/
theorem c_L_law (l : Launch) (hlt : l.stackTraces = false) (e0 : Nat) (dC : Nat → ClassId) (dI : Nat → Nat → Nat) (sz : Nat) (h : Nat → Nat) (ca : Nat → ClassId) (qo : Nat) (cO : ClassId) (fo : Nat → Int64) (p0 p1 : Int32) : vx_Met l yL_law wsL_law ({ frames := 7, cells := 3, slots := 12, locals := 144 }) (va_Pc [.ref (h 0), .int p0, .int p1, .ref qo] (pz_P e0 (dC, dI) [(ca 0, .int), (ca 1, .int), (cO, .long)] [(h 0, .inr (12, [.ref (h 1), .ref (h 2), .ref (h 3), .ref (h 4), .ref (h 5), .ref (h 6), .ref (h 8), .ref (h 12), .ref (h 11), .int 0, .int 0, .int (-1), .long 0, .long 0])), (h 3, .inr (0, [.int 0, .ref e0, .int 0])), (h 6, .inr (10, [.ref (h 7), .int 0])), (h 7, .inl (ca 0, 500, .inl (fun _ => 0))), (h 8, .inr (6, [.ref (h 9), .ref (h 10), .int 0, .int 0, .int 0])), (h 9, .inr (11, [.ref (h 6), .int 0, .int 0, .int 0, .int 0])), (h 10, .inl (ca 1, 500, .inl (fun _ => 0))), (qo, .inl (cO, 1, .inr (.inl fo)))] sz)) (va_Qi (S := Nat → Int64) (fun (r : Int32) (u : Nat → Int64) => ((¬ ((0 ≤ p0 ∧ p0 ≤ 0) ∧ (0 ≤ p1 ∧ p1 ≤ 1000))) ∧ r = 1) ∨ (¬ (¬ ((0 ≤ p0 ∧ p0 ≤ 0) ∧ (0 ≤ p1 ∧ p1 ≤ 1000))) ∧ r = 0 ∧ u (Int32.toNatClampNeg 0) = 0)) (fun u t => va_P (dC, dI) vwCl [(qo, .inl (cO, 1, .inr (.inl u)))] t.heap ∧ va_D (va_A [(h 0, .inr (12, [.ref (h 1), .ref (h 2), .ref (h 3), .ref (h 4), .ref (h 5), .ref (h 6), .ref (h 8), .ref (h 12), .ref (h 11), .int 0, .int 0, .int (-1), .long 0, .long 0])), (h 3, .inr (0, [.int 0, .ref e0, .int 0])), (h 6, .inr (10, [.ref (h 7), .int 0])), (h 7, .inl (ca 0, 500, .inl (fun _ => 0))), (h 8, .inr (6, [.ref (h 9), .ref (h 10), .int 0, .int 0, .int 0])), (h 9, .inr (11, [.ref (h 6), .int 0, .int 0, .int 0, .int 0])), (h 10, .inl (ca 1, 500, .inl (fun _ => 0))), (qo, .inl (cO, 1, .inr (.inl fo)))] sz) [(qo, .inl (cO, 1, .inr (.inl u)))]) (va_A [(h 0, .inr (12, [.ref (h 1), .ref (h 2), .ref (h 3), .ref (h 4), .ref (h 5), .ref (h 6), .ref (h 8), .ref (h 12), .ref (h 11), .int 0, .int 0, .int (-1), .long 0, .long 0])), (h 3, .inr (0, [.int 0, .ref e0, .int 0])), (h 6, .inr (10, [.ref (h 7), .int 0])), (h 7, .inl (ca 0, 500, .inl (fun _ => 0))), (h 8, .inr (6, [.ref (h 9), .ref (h 10), .int 0, .int 0, .int 0])), (h 9, .inr (11, [.ref (h 6), .int 0, .int 0, .int 0, .int 0])), (h 10, .inl (ca 1, 500, .inl (fun _ => 0))), (qo, .inl (cO, 1, .inr (.inl fo)))] sz)) (pz_X pz_N False (va_A [(h 0, .inr (12, [.ref (h 1), .ref (h 2), .ref (h 3), .ref (h 4), .ref (h 5), .ref (h 6), .ref (h 8), .ref (h 12), .ref (h 11), .int 0, .int 0, .int (-1), .long 0, .long 0])), (h 3, .inr (0, [.int 0, .ref e0, .int 0])), (h 6, .inr (10, [.ref (h 7), .int 0])), (h 7, .inl (ca 0, 500, .inl (fun _ => 0))), (h 8, .inr (6, [.ref (h 9), .ref (h 10), .int 0, .int 0, .int 0])), (h 9, .inr (11, [.ref (h 6), .int 0, .int 0, .int 0, .int 0])), (h 10, .inl (ca 1, 500, .inl (fun _ => 0))), (qo, .inl (cO, 1, .inr (.inl fo)))] sz)) 3 12 (va_A [(h 0, .inr (12, [.ref (h 1), .ref (h 2), .ref (h 3), .ref (h 4), .ref (h 5), .ref (h 6), .ref (h 8), .ref (h 12), .ref (h 11), .int 0, .int 0, .int (-1), .long 0, .long 0])), (h 3, .inr (0, [.int 0, .ref e0, .int 0])), (h 6, .inr (10, [.ref (h 7), .int 0])), (h 7, .inl (ca 0, 500, .inl (fun _ => 0))), (h 8, .inr (6, [.ref (h 9), .ref (h 10), .int 0, .int 0, .int 0])), (h 9, .inr (11, [.ref (h 6), .int 0, .int 0, .int 0, .int 0])), (h 10, .inl (ca 1, 500, .inl (fun _ => 0))), (qo, .inl (cO, 1, .inr (.inl fo)))] sz) := by
  refine vx_ofWH (cc := cL_law) (maxL := 5) (ret := (some .int)) (hh := [(0, 10, 13, 36)]) (by decide) rfl ?_
  intro p e s m args below meth c s₁ B hml hv
  obtain ⟨rfl, hsz, hP, hK, hD0, hZ, hV, hT⟩ := hv
  have hx := B.exec
  have hb := B.bytes
  have hr := B.returns
  have hts := atoms_spec (ws := wsL_law) B.pre
  have hown : s.vm.findClass RL = some m.cls := findClass_of_methodNamed B.named
  have hlocks := B.notSynchronized
  have htab := vx_table (x := yL_law) B (hts _ List.mem_cons_self)
  subst hsz
  have hD := hD0.self (sz := s.heap.size)
  generalize hAe : va_A [(h 0, .inr (12, [.ref (h 1), .ref (h 2), .ref (h 3), .ref (h 4), .ref (h 5), .ref (h 6), .ref (h 8), .ref (h 12), .ref (h 11), .int 0, .int 0, .int (-1), .long 0, .long 0])), (h 3, .inr (0, [.int 0, .ref e0, .int 0])), (h 6, .inr (10, [.ref (h 7), .int 0])), (h 7, .inl (ca 0, 500, .inl (fun _ => 0))), (h 8, .inr (6, [.ref (h 9), .ref (h 10), .int 0, .int 0, .int 0])), (h 9, .inr (11, [.ref (h 6), .int 0, .int 0, .int 0, .int 0])), (h 10, .inl (ca 1, 500, .inl (fun _ => 0))), (qo, .inl (cO, 1, .inr (.inl fo)))] s.heap.size = A at hD hZ hT ⊢
  have hA : ∀ q : Nat, s.heap.size ≤ q → A q := fun q h => by rw [← hAe]; exact Or.inr h
  have hS : va_S A s.heap s.heap [] := va_S.rf
  have hP : va_P (dC, dI) vwCl [(h 0, .inr (12, [.ref (h 1), .ref (h 2), .ref (h 3), .ref (h 4), .ref (h 5), .ref (h 6), .ref (h 8), .ref (h 12), .ref (h 11), .int 0, .int 0, .int (-1), .long 0, .long 0])), (h 3, .inr (0, [.int 0, .ref e0, .int 0])), (h 6, .inr (10, [.ref (h 7), .int 0])), (h 7, .inl (ca 0, 500, .inl (fun _ => 0))), (h 8, .inr (6, [.ref (h 9), .ref (h 10), .int 0, .int 0, .int 0])), (h 9, .inr (11, [.ref (h 6), .int 0, .int 0, .int 0, .int 0])), (h 10, .inl (ca 1, 500, .inl (fun _ => 0))), (qo, .inl (cO, 1, .inr (.inl fo)))] s.heap := hP
  have hl := lv_entry ([.ref (h 0), .int p0, .int p1, .ref qo]) (n := 5) (Nat.le_of_ble_eq_true rfl)
  rw [lg_entry_eq]
  generalize (lg_sl ([.ref (h 0), .int p0, .int p1, .ref qo]) ++ List.replicate (5 - (lg_sl ([.ref (h 0), .int p0, .int p1, .ref qo])).length) Slot.unset).toArray = ls at hl ⊢
  have hl : lv_has ls 5 [(0, .ref (h 0)), (1, .int p0), (2, .int p1), (3, .ref qo)] := hl
  refine lv_aload_n hx hb dL_law_0 rfl (lv_at hl 3 rfl) ?_
  refine lv_iconst (v := 0) hx hb dL_law_1 (by decide) ?_
  refine lv_aload_n hx hb dL_law_2 rfl (lv_at hl 0 rfl) ?_
  refine lv_iload_n hx hb dL_law_3 rfl (lv_at hl 1 rfl) ?_
  refine lv_iload_n hx hb dL_law_4 rfl (lv_at hl 2 rfl) ?_
  have hPc := hP.sub (ws' := [(h 0, .inr (12, [.ref (h 1), .ref (h 2), .ref (h 3), .ref (h 4), .ref (h 5), .ref (h 6), .ref (h 8), .ref (h 12), .ref (h 11), .int 0, .int 0, .int (-1), .long 0, .long 0])), (h 3, .inr (0, [.int 0, .ref e0, .int 0])), (h 6, .inr (10, [.ref (h 7), .int 0])), (h 7, .inl (ca 0, 500, .inl (fun _ => 0))), (h 8, .inr (6, [.ref (h 9), .ref (h 10), .int 0, .int 0, .int 0])), (h 9, .inr (11, [.ref (h 6), .int 0, .int 0, .int 0, .int 0])), (h 10, .inl (ca 1, 500, .inl (fun _ => 0)))]) [0, 1, 2, 3, 4, 5, 6] rfl
  have hDc := hD.sub (ws' := [(h 0, .inr (12, [.ref (h 1), .ref (h 2), .ref (h 3), .ref (h 4), .ref (h 5), .ref (h 6), .ref (h 8), .ref (h 12), .ref (h 11), .int 0, .int 0, .int (-1), .long 0, .long 0])), (h 3, .inr (0, [.int 0, .ref e0, .int 0])), (h 6, .inr (10, [.ref (h 7), .int 0])), (h 7, .inl (ca 0, 500, .inl (fun _ => 0))), (h 8, .inr (6, [.ref (h 9), .ref (h 10), .int 0, .int 0, .int 0])), (h 9, .inr (11, [.ref (h 6), .int 0, .int 0, .int 0, .int 0])), (h 10, .inl (ca 1, 500, .inl (fun _ => 0)))]) [0, 1, 2, 3, 4, 5, 6] (by decide) rfl
  have hKc := hK.sub (tys' := [(ca 0, .int), (ca 1, .int)]) [0, 1] rfl
  have hFc := va_free (wc := [(h 0, .inr (12, [.ref (h 1), .ref (h 2), .ref (h 3), .ref (h 4), .ref (h 5), .ref (h 6), .ref (h 8), .ref (h 12), .ref (h 11), .int 0, .int 0, .int (-1), .long 0, .long 0])), (h 3, .inr (0, [.int 0, .ref e0, .int 0])), (h 6, .inr (10, [.ref (h 7), .int 0])), (h 7, .inl (ca 0, 500, .inl (fun _ => 0))), (h 8, .inr (6, [.ref (h 9), .ref (h 10), .int 0, .int 0, .int 0])), (h 9, .inr (11, [.ref (h 6), .int 0, .int 0, .int 0, .int 0])), (h 10, .inl (ca 1, 500, .inl (fun _ => 0)))]) hD hS hA [0, 1, 2, 3, 4, 5, 6] rfl
  refine vx_calli (vx_runV (As := [.int p0, .int p1]) (rest := [.int 0, .ref qo]) ⟨hx, hb, hml, hown, hts⟩ (c_X11_law l hlt e0 dC dI s.heap.size h ca p0 p1) (cwV 2 hts gL_law_X11_law rfl rfl rfl (by decide +kernel) ⟨Nat.le_of_ble_eq_true rfl, Nat.le_of_ble_eq_true rfl⟩) (pz_preV [.int p0, .int p1] hPc hDc hKc hZ hV hT hS hFc (va_recv hKc hPc (ci := 12) (q0 := 0) rfl rfl)) rfl rfl hl.1 rfl (lv_room (Nat.le_of_ble_eq_true rfl)) dL_law_5 ⟨Nat.le_of_ble_eq_true rfl, Nat.le_of_ble_eq_true rfl⟩) hS (fun q _ h => hFc q h) hFc (fun q _ h => hFc q h) (fun E ce qx_5 u_2 t H locs ht hvm hpx hE hz1 hk1 hS hce hcv hcl => ?_) (fun r_1 u_2 t H locs ht hvm hw_3 hB_4 hz1 hk1 hS => ?_)
  ·
    obtain ⟨hP, hD⟩ := pz_rest (wr := [(qo, .inl (cO, 1, .inr (.inl fo)))]) hP hD [0, 1, 2, 3, 4, 5, 6] [7] rfl rfl (by decide) (by decide) hk1 hFc
    subst hE
    refine pq_catch hown _ htab (by decide) (by decide) (hts (.classLink RL 36 pz_I) (by decide +kernel)) (va_any rfl hV.2.2.2.1.2.2.2.2) hce hcv hcl ?_
    refine W.eq (g2 := F0 m 13 ls [.ref qx_5]) rfl ?_
    refine lv_astore (lv' := [(4, .ref qx_5), (0, .ref (h 0)), (1, .int p0), (2, .int p1), (3, .ref qo)]) hx hb dL_law_13 hl (by decide) rfl (fun ls hl => ?_)
    refine lv_iconst (v := 1) hx hb dL_law_15 (by decide) ?_
    refine W.widen (k := 3) (n := 12) (Nat.le_of_ble_eq_true rfl) (Nat.le_of_ble_eq_true rfl) ?_
    refine vx_ret ?_
    have hP9 := hP.sub (ws' := [(qo, .inl (cO, 1, .inr (.inl fo)))]) [0] rfl
    have hD9 := hD.sub (ws' := [(qo, .inl (cO, 1, .inr (.inl fo)))]) [0] (by decide) rfl
    exact W.iret (v := 1) hx hb hr (fun t ht hW => ⟨⟨1, fo, rfl, Or.inl ⟨hpx, rfl⟩, ⟨(by rw [ht]; exact hP9), hD9⟩⟩, hS.F ht⟩) hS.2.2 dL_law_16
  ·
    obtain ⟨hP, hD⟩ := pz_rest (wr := [(qo, .inl (cO, 1, .inr (.inl fo)))]) hP hD [0, 1, 2, 3, 4, 5, 6] [7] rfl rfl (by decide) (by decide) hk1 hFc
    obtain ⟨rfl, hok⟩ := hw_3
    refine lv_i2l (v := 0) hx hb dL_law_8 (by decide) ?_
    refine va_last hx hb hK hP hD hS 0 2 rfl rfl (pz_inK (by decide)) dL_law_9 (fun H locs hP hD hS => ?_)
    have hP : va_P (dC, dI) vwCl [(qo, .inl (cO, 1, .inr (.inl (vp_updL fo (Int32.toNatClampNeg 0) 0))))] H := hP
    have hD : va_D A [(qo, .inl (cO, 1, .inr (.inl (vp_updL fo (Int32.toNatClampNeg 0) 0))))] := hD
    refine lv_goto (tgt := 17) hx hb dL_law_10 (by decide) ?_
    refine lv_iconst (v := 0) hx hb dL_law_17 (by decide) ?_
    refine W.widen (k := 3) (n := 12) (Nat.le_of_ble_eq_true rfl) (Nat.le_of_ble_eq_true rfl) ?_
    refine vx_ret ?_
    have hP9 := hP.sub (ws' := [(qo, .inl (cO, 1, .inr (.inl (vp_updL fo (Int32.toNatClampNeg 0) 0))))]) [0] rfl
    have hD9 := hD.sub (ws' := [(qo, .inl (cO, 1, .inr (.inl (vp_updL fo (Int32.toNatClampNeg 0) 0))))]) [0] (by decide) rfl
    exact W.iret (v := 0) hx hb hr (fun t ht hW => ⟨⟨0, vp_updL fo (Int32.toNatClampNeg 0) 0, rfl, Or.inr ⟨(not_not_intro hok), rfl, rfl⟩, ⟨(by rw [ht]; exact hP9), hD9⟩⟩, hS.F ht⟩) hS.2.2 dL_law_18

theorem dL_law__953 : decode cL_law_ 953 = .ok (.aload_n 1, 1) := by decide +kernel
theorem dL_law__954 : decode cL_law_ 954 = .ok (.aload_n 0, 1) := by decide +kernel
theorem dL_law__955 : decode cL_law_ 955 = .ok (.iload 4, 2) := by decide +kernel
theorem dL_law__957 : decode cL_law_ 957 = .ok (.iconst 1, 1) := by decide +kernel
theorem dL_law__958 : decode cL_law_ 958 = .ok (.iadd, 1) := by decide +kernel
theorem dL_law__959 : decode cL_law_ 959 = .ok (.iaload, 1) := by decide +kernel
theorem dL_law__960 : decode cL_law_ 960 = .ok (.aload_n 3, 1) := by decide +kernel
theorem dL_law__961 : decode cL_law_ 961 = .ok (.invokestatic 135, 3) := by decide +kernel
theorem dL_law__964 : decode cL_law_ 964 = .ok (.istore 5, 2) := by decide +kernel
theorem dL_law__966 : decode cL_law_ 966 = .ok (.aload_n 2, 1) := by decide +kernel
theorem dL_law__967 : decode cL_law_ 967 = .ok (.aload_n 0, 1) := by decide +kernel
theorem dL_law__968 : decode cL_law_ 968 = .ok (.iload 4, 2) := by decide +kernel
theorem dL_law__970 : decode cL_law_ 970 = .ok (.iconst 1, 1) := by decide +kernel
theorem dL_law__971 : decode cL_law_ 971 = .ok (.iadd, 1) := by decide +kernel
theorem dL_law__972 : decode cL_law_ 972 = .ok (.iaload, 1) := by decide +kernel
theorem dL_law__973 : decode cL_law_ 973 = .ok (.invokevirtual 138, 3) := by decide +kernel
theorem dL_law__976 : decode cL_law_ 976 = .ok (.istore 6, 2) := by decide +kernel
theorem dL_law__978 : decode cL_law_ 978 = .ok (.aload_n 2, 1) := by decide +kernel
theorem dL_law__979 : decode cL_law_ 979 = .ok (.invokevirtual 95, 3) := by decide +kernel
theorem dL_law__982 : decode cL_law_ 982 = .ok (.iload 5, 2) := by decide +kernel
theorem dL_law__984 : decode cL_law_ 984 = .ok (.if_icmp .eq 5, 3) := by decide +kernel
theorem dL_law__989 : decode cL_law_ 989 = .ok (.iload 5, 2) := by decide +kernel
theorem dL_law__991 : decode cL_law_ 991 = .ok (.ifCond .ne 15, 3) := by decide +kernel
theorem dL_law__994 : decode cL_law_ 994 = .ok (.aload_n 3, 1) := by decide +kernel
theorem dL_law__995 : decode cL_law_ 995 = .ok (.iconst 0, 1) := by decide +kernel
theorem dL_law__996 : decode cL_law_ 996 = .ok (.laload, 1) := by decide +kernel
theorem dL_law__997 : decode cL_law_ 997 = .ok (.iload 6, 2) := by decide +kernel
theorem dL_law__999 : decode cL_law_ 999 = .ok (.i2l, 1) := by decide +kernel
theorem dL_law__1000 : decode cL_law_ 1000 = .ok (.lcmp, 1) := by decide +kernel
theorem dL_law__1001 : decode cL_law_ 1001 = .ok (.ifCond .eq 5, 3) := by decide +kernel
theorem dL_law__1006 : decode cL_law_ 1006 = .ok (.goto 737, 3) := by decide +kernel
set_option maxRecDepth 20000 in
theorem ggL_law__L_hours : GoodIn wsL_law_ wsL_hours := goodIn_ca (goodIn_r _ [774, 393, 775, 776, 777, 2, 778, 398, 399, 351, 149, 150, 151, 779, 780, 781, 782, 16, 135, 298, 783, 784, 785, 786, 787, 144, 145, 146, 15, 147, 148, 152, 153, 154, 155, 156, 157, 158, 159, 160, 161, 162, 163, 164, 165, 166, 167, 39, 788, 789, 790, 138, 791, 792, 793, 794, 795, 796, 797, 205, 206, 207, 798, 799, 232, 233, 800, 801, 802, 803, 804, 139, 805, 806, 807, 808, 809, 810, 811, 673, 812, 813, 814, 815, 816, 721, 722, 723, 176, 718, 724, 719, 725, 726, 727, 817, 818, 819, 820, 310, 821, 822, 316, 32, 143, 33, 823, 254, 824, 825, 826, 313, 827, 828, 677, 678, 679, 680, 18, 681, 682, 683, 684, 685, 31, 686, 687, 688, 689, 690, 691, 692, 693, 694, 695, 696, 697, 698, 75, 699, 700, 701, 702, 703, 704, 705, 706, 74, 707, 708, 709, 710, 711, 712, 713, 829, 830, 831, 640, 832, 650, 652, 186, 187, 188, 189, 190, 191, 192, 193, 194, 195, 196, 197, 198, 199, 200, 201, 202, 203, 38, 204, 208, 209, 210, 211, 212, 213, 214, 215, 216, 217, 218, 219, 220, 221, 222, 223, 224, 225, 226, 227, 228, 229, 230, 231, 234, 235, 236, 237, 833, 834, 835, 836, 651, 714, 715, 716, 717, 172, 720, 728, 729, 730, 731, 732, 837, 838, 839, 840, 841, 842, 843, 844, 845, 846, 847, 848, 849, 850, 851, 852, 853, 854, 855, 856, 857, 858, 19, 349, 859, 350, 860, 861, 862, 863, 864, 865, 866, 867, 358, 868, 364, 869, 870, 871, 872, 337, 873, 874, 875, 876, 877, 878, 879, 880, 881, 882, 883, 142, 884, 184, 885, 886, 887, 888, 889, 890, 891, 892, 893, 894, 895, 896, 897, 898, 899, 900, 901, 902, 903, 904, 905, 906, 907, 908, 322, 909, 910, 911, 912, 913, 914, 915, 916, 917, 918, 919, 920, 653, 1112, 1113, 1114, 1115, 1116, 1117, 1118, 1119, 1120, 1121, 1122, 1123, 1124, 1125, 1216, 1217, 1218, 1219, 1220, 1221, 1222, 1223, 1224, 1225, 1226, 1227, 1228, 1196, 1197, 1198, 1229, 1230, 1231, 1232, 1241, 1242, 1243, 1244, 1245, 1246, 1247, 1248, 1249, 1233, 1234, 1235, 1236, 1206, 1207, 1208, 1209, 1210, 1239, 1240, 1237, 1238, 1250, 1251, 1252] (by decide +kernel) (by decide +kernel)) (goodIn_sub (fun _ h => List.mem_append_right _ h) (by decide +kernel))
set_option maxRecDepth 20000 in
theorem gL_law__L_hours : GoodIn wsL_law_ (va_wsS RL 135 yL_hours wsL_hours) := goodIn_app (goodIn_of _ (by decide +kernel)) ggL_law__L_hours
set_option maxRecDepth 20000 in
theorem ggL_law__X12_hours : GoodIn wsL_law_ wsX12_hours := goodIn_r _ [924, 242, 374, 271, 272, 273, 5, 274, 925, 926, 927, 928, 243, 90, 87, 929, 88, 89, 92, 96, 95, 930, 205, 206, 207, 97, 931, 232, 233, 83, 932, 933, 934, 935, 936, 84, 102, 130, 103, 765, 766, 767, 937, 938, 939, 940, 110, 111, 104, 761, 762, 763, 764, 85, 941, 942, 943, 944, 768, 769, 770, 771, 945, 946, 947, 948, 93, 98, 106, 100, 99, 101, 109, 122, 745, 746, 747, 748, 559, 124, 125, 129, 126, 749, 750, 751, 752, 753, 127, 128, 754, 755, 756, 757, 107, 108, 112, 758, 759, 760, 949, 950, 951, 952, 86, 373, 115, 116, 117, 105, 94, 953, 954, 955, 956, 658, 957, 958, 959, 960, 961, 118, 121, 119, 120, 962, 963, 964, 965, 113, 966, 114, 1126, 1127, 1128, 1129, 1130, 1131, 1132, 1133, 1134, 1135, 1136, 1137, 1138, 1139, 1140, 1141, 1142, 1143, 1144, 1145, 1146, 1147, 1148, 1149, 1150, 1151, 1152, 1153, 1154, 1155, 1156, 1157, 1158, 1159, 1160, 1161, 1162, 1163, 1164, 1165, 1166, 1167, 1168, 1169, 1170, 1171, 1172, 1173, 1174, 1175, 1176, 1177, 1178, 1179, 1180, 1181, 1182, 1183, 1184, 1185, 1186, 1187, 1188, 1189, 1190, 1191, 1192, 1193, 1194, 1195] (by decide +kernel) (by decide +kernel)
set_option maxRecDepth 20000 in
theorem gL_law__X12_hours : GoodIn wsL_law_ (wsV RL 138 RX12 yX12_hours wsX12_hours) := goodIn_app (goodIn_of _ (by decide +kernel)) ggL_law__X12_hours
set_option maxHeartbeats 8000000 in
set_option maxRecDepth 100000 in
/-- the law's case 12: hours -/
theorem lc_hours {p : Program} {e : Env} {s : State} {m : MethodId} {below : List Frame} {meth : Method} {c : Code} (l : Launch) (hlt : l.stackTraces = false) {b : Nat} {xs : Nat → Int32} (C0 : lw_At p s m meth c b 6 xs) (e0 : Nat) (dC : Nat → ClassId) (dI : Nat → Nat → Nat) (h g : Nat → Nat) (ca cb : Nat → ClassId) (qo : Nat) (cO : ClassId) (fo : Nat → Int64) {A : Nat → Prop} (hAe : (fun q : Nat => s.heap.size ≤ q) = A) {H : Heap} {locs : List Loc} (hK : va_K (dC, dI) vwCl [(cO, .long)] s) (hP : va_P (dC, dI) vwCl [(h 0, .inr (12, [.ref (h 1), .ref (h 2), .ref (h 3), .ref (h 4), .ref (h 5), .ref (h 6), .ref (h 8), .ref (h 12), .ref (h 11), .int 0, .int 0, .int (-1), .long 0, .long 0])), (h 1, .inr (0, [.int 0, .ref e0, .int 0])), (h 4, .inr (0, [.int 0, .ref e0, .int 0])), (qo, .inl (cO, 1, .inr (.inl fo))), (g 0, .inr (13, [.ref (g 1), .int 0, .int 0, .int 0, .int 0, .int 0, .int 0, .int 0, .int 0, .int 0, .int (-1), .long 0, .long 0, .ref (g 14), .ref (g 15), .ref (g 16), .ref (g 17), .ref (g 18), .ref (g 19), .ref (g 20), .ref (g 21), .ref (g 22), .ref (g 23), .ref (g 24), .ref (g 25), .ref (g 26), .ref (g 27), .ref (g 28), .ref (g 29), .ref (g 30), .ref (g 31), .ref (g 32), .ref (g 33), .ref (g 34), .ref (g 35), .ref (g 36), .ref (g 37), .ref (g 38), .ref (g 39), .ref (g 40), .ref (g 41), .ref (g 42), .ref (g 43), .ref (g 44), .ref (g 45), .ref (g 46), .ref (g 47), .ref (g 48), .ref (g 49), .ref (g 50), .ref (g 51), .ref (g 52), .ref (g 53), .ref (g 54), .ref (g 55), .ref (g 56), .ref (g 57), .ref (g 58), .ref (g 59), .int 0, .int 0, .int 0, .int 0, .int 0, .int 0, .int 0, .int 0, .int 0, .int 0, .ref (g 70)]))] H) (hD : va_D A [(h 0, .inr (12, [.ref (h 1), .ref (h 2), .ref (h 3), .ref (h 4), .ref (h 5), .ref (h 6), .ref (h 8), .ref (h 12), .ref (h 11), .int 0, .int 0, .int (-1), .long 0, .long 0])), (h 1, .inr (0, [.int 0, .ref e0, .int 0])), (h 4, .inr (0, [.int 0, .ref e0, .int 0])), (qo, .inl (cO, 1, .inr (.inl fo))), (g 0, .inr (13, [.ref (g 1), .int 0, .int 0, .int 0, .int 0, .int 0, .int 0, .int 0, .int 0, .int 0, .int (-1), .long 0, .long 0, .ref (g 14), .ref (g 15), .ref (g 16), .ref (g 17), .ref (g 18), .ref (g 19), .ref (g 20), .ref (g 21), .ref (g 22), .ref (g 23), .ref (g 24), .ref (g 25), .ref (g 26), .ref (g 27), .ref (g 28), .ref (g 29), .ref (g 30), .ref (g 31), .ref (g 32), .ref (g 33), .ref (g 34), .ref (g 35), .ref (g 36), .ref (g 37), .ref (g 38), .ref (g 39), .ref (g 40), .ref (g 41), .ref (g 42), .ref (g 43), .ref (g 44), .ref (g 45), .ref (g 46), .ref (g 47), .ref (g 48), .ref (g 49), .ref (g 50), .ref (g 51), .ref (g 52), .ref (g 53), .ref (g 54), .ref (g 55), .ref (g 56), .ref (g 57), .ref (g 58), .ref (g 59), .int 0, .int 0, .int 0, .int 0, .int 0, .int 0, .int 0, .int 0, .int 0, .int 0, .ref (g 70)]))]) (hS : va_S A s.heap H locs) (hZ : pz_s e0 A s s.heap) (hV : pz_v s) (hT : pz_t A s s.heap) (ls : Array Slot) (hl : lv_has ls 8 [(4, .int 0), (3, .ref qo), (2, .ref (g 0)), (1, .ref (h 0)), (0, .ref b)]) : W p l e room_1 s m #[Value.ref b] below meth c H locs 300 100000 (lw_Z below #[Value.ref b] s) (F0 m 953 ls []) := by
  obtain ⟨hx, hb, hr, hml, hown, hts, hX, hbl, hlocks, hgv⟩ := id C0
  have hown : s.vm.findClass RL = some m.cls := hown
  have hts := fun w h => hts w (wsL_law__in w h)
  have hA : ∀ q : Nat, s.heap.size ≤ q → A q := fun q h => by rw [← hAe]; exact h
  have hbA : ¬ A b := by rw [← hAe]; exact Nat.not_le.mpr hbl
  refine lv_aload_n hx hb dL_law__953 rfl (lv_at hl 3 rfl) ?_
  refine lv_aload_n hx hb dL_law__954 rfl (lv_at hl 4 rfl) ?_
  refine lv_iload hx hb dL_law__955 (lv_at hl 0 rfl) ?_
  refine lv_iconst (v := 1) hx hb dL_law__957 (by decide) ?_
  refine lv_iadd hx hb dL_law__958 ?_
  refine lv_topi (fun x_1 ex_1 => ?_)
  obtain rfl : x_1 = 1 := ex_1.trans (by decide)
  refine va_sld hx hb hX hbl hbA hS (pz_inK (by decide)) dL_law__959 ?_
  refine lv_aload_n hx hb dL_law__960 rfl (lv_at hl 1 rfl) ?_
  have hPc := hP.sub (ws' := [(h 0, .inr (12, [.ref (h 1), .ref (h 2), .ref (h 3), .ref (h 4), .ref (h 5), .ref (h 6), .ref (h 8), .ref (h 12), .ref (h 11), .int 0, .int 0, .int (-1), .long 0, .long 0])), (h 1, .inr (0, [.int 0, .ref e0, .int 0])), (h 4, .inr (0, [.int 0, .ref e0, .int 0])), (qo, .inl (cO, 1, .inr (.inl fo)))]) [0, 1, 2, 3] rfl
  have hDc := hD.sub (ws' := [(h 0, .inr (12, [.ref (h 1), .ref (h 2), .ref (h 3), .ref (h 4), .ref (h 5), .ref (h 6), .ref (h 8), .ref (h 12), .ref (h 11), .int 0, .int 0, .int (-1), .long 0, .long 0])), (h 1, .inr (0, [.int 0, .ref e0, .int 0])), (h 4, .inr (0, [.int 0, .ref e0, .int 0])), (qo, .inl (cO, 1, .inr (.inl fo)))]) [0, 1, 2, 3] (by decide) rfl
  have hKc := hK.sub (tys' := [(cO, .long)]) [0] rfl
  have hFc := va_free (wc := [(h 0, .inr (12, [.ref (h 1), .ref (h 2), .ref (h 3), .ref (h 4), .ref (h 5), .ref (h 6), .ref (h 8), .ref (h 12), .ref (h 11), .int 0, .int 0, .int (-1), .long 0, .long 0])), (h 1, .inr (0, [.int 0, .ref e0, .int 0])), (h 4, .inr (0, [.int 0, .ref e0, .int 0])), (qo, .inl (cO, 1, .inr (.inl fo)))]) hD hS hA [0, 1, 2, 3] rfl
  refine vx_calli (vx_runSX (As := [.ref (h 0), .int (xs (Int32.toNatClampNeg 1)), .ref qo]) (rest := []) ⟨hx, hb, hml, hown, hts⟩ (c_L_hours l hlt e0 dC dI H.size h qo cO fo (xs (Int32.toNatClampNeg 1))) (vx_cwSW 3 hts gL_law__L_hours rfl rfl rfl (by decide +kernel) ⟨Nat.le_of_ble_eq_true rfl, Nat.le_of_ble_eq_true rfl⟩) (pz_preS [.ref (h 0), .int (xs (Int32.toNatClampNeg 1)), .ref qo] hPc hDc hKc hZ hV hT hS hFc) rfl rfl hl.1 rfl (lv_room (Nat.le_of_ble_eq_true rfl)) dL_law__961 ⟨Nat.le_of_ble_eq_true rfl, Nat.le_of_ble_eq_true rfl⟩) hS (fun q _ h => hFc q h) hFc (fun q _ h => hFc q h) (fun E ce qx_6 u_3 t H locs ht hvm hpx hE hz1 hk1 hS hce hcv hcl => ?_) (fun r_2 u_3 t H locs ht hvm hw_4 hB_5 hz1 hk1 hS => ?_)
  ·
    exact hpx.elim
  ·
    obtain ⟨hP1, hD1⟩ := hB_5
    rw [ht] at hP1
    obtain ⟨hP, hD⟩ := va_join (wr := [(g 0, .inr (13, [.ref (g 1), .int 0, .int 0, .int 0, .int 0, .int 0, .int 0, .int 0, .int 0, .int 0, .int (-1), .long 0, .long 0, .ref (g 14), .ref (g 15), .ref (g 16), .ref (g 17), .ref (g 18), .ref (g 19), .ref (g 20), .ref (g 21), .ref (g 22), .ref (g 23), .ref (g 24), .ref (g 25), .ref (g 26), .ref (g 27), .ref (g 28), .ref (g 29), .ref (g 30), .ref (g 31), .ref (g 32), .ref (g 33), .ref (g 34), .ref (g 35), .ref (g 36), .ref (g 37), .ref (g 38), .ref (g 39), .ref (g 40), .ref (g 41), .ref (g 42), .ref (g 43), .ref (g 44), .ref (g 45), .ref (g 46), .ref (g 47), .ref (g 48), .ref (g 49), .ref (g 50), .ref (g 51), .ref (g 52), .ref (g 53), .ref (g 54), .ref (g 55), .ref (g 56), .ref (g 57), .ref (g 58), .ref (g 59), .int 0, .int 0, .int 0, .int 0, .int 0, .int 0, .int 0, .int 0, .int 0, .int 0, .ref (g 70)]))]) (w1 := [(qo, .inl (cO, 1, .inr (.inl u_3)))]) hP hD [0, 1, 2, 3] [4] rfl rfl (by decide) (by decide) hk1 hFc hP1 hD1
    have hP : va_P (dC, dI) vwCl [(g 0, .inr (13, [.ref (g 1), .int 0, .int 0, .int 0, .int 0, .int 0, .int 0, .int 0, .int 0, .int 0, .int (-1), .long 0, .long 0, .ref (g 14), .ref (g 15), .ref (g 16), .ref (g 17), .ref (g 18), .ref (g 19), .ref (g 20), .ref (g 21), .ref (g 22), .ref (g 23), .ref (g 24), .ref (g 25), .ref (g 26), .ref (g 27), .ref (g 28), .ref (g 29), .ref (g 30), .ref (g 31), .ref (g 32), .ref (g 33), .ref (g 34), .ref (g 35), .ref (g 36), .ref (g 37), .ref (g 38), .ref (g 39), .ref (g 40), .ref (g 41), .ref (g 42), .ref (g 43), .ref (g 44), .ref (g 45), .ref (g 46), .ref (g 47), .ref (g 48), .ref (g 49), .ref (g 50), .ref (g 51), .ref (g 52), .ref (g 53), .ref (g 54), .ref (g 55), .ref (g 56), .ref (g 57), .ref (g 58), .ref (g 59), .int 0, .int 0, .int 0, .int 0, .int 0, .int 0, .int 0, .int 0, .int 0, .int 0, .ref (g 70)])), (qo, .inl (cO, 1, .inr (.inl u_3)))] H := hP
    have hD : va_D A [(g 0, .inr (13, [.ref (g 1), .int 0, .int 0, .int 0, .int 0, .int 0, .int 0, .int 0, .int 0, .int 0, .int (-1), .long 0, .long 0, .ref (g 14), .ref (g 15), .ref (g 16), .ref (g 17), .ref (g 18), .ref (g 19), .ref (g 20), .ref (g 21), .ref (g 22), .ref (g 23), .ref (g 24), .ref (g 25), .ref (g 26), .ref (g 27), .ref (g 28), .ref (g 29), .ref (g 30), .ref (g 31), .ref (g 32), .ref (g 33), .ref (g 34), .ref (g 35), .ref (g 36), .ref (g 37), .ref (g 38), .ref (g 39), .ref (g 40), .ref (g 41), .ref (g 42), .ref (g 43), .ref (g 44), .ref (g 45), .ref (g 46), .ref (g 47), .ref (g 48), .ref (g 49), .ref (g 50), .ref (g 51), .ref (g 52), .ref (g 53), .ref (g 54), .ref (g 55), .ref (g 56), .ref (g 57), .ref (g 58), .ref (g 59), .int 0, .int 0, .int 0, .int 0, .int 0, .int 0, .int 0, .int 0, .int 0, .int 0, .ref (g 70)])), (qo, .inl (cO, 1, .inr (.inl u_3)))] := hD
    rcases hw_4 with ⟨hC, rfl⟩ | ⟨hC, rfl, hval⟩
    ·
      refine lv_istore (lv' := [(5, .int 1), (4, .int 0), (3, .ref qo), (2, .ref (g 0)), (1, .ref (h 0)), (0, .ref b)]) hx hb dL_law__964 hl (by decide) rfl (fun ls hl => ?_)
      refine lv_aload_n hx hb dL_law__966 rfl (lv_at hl 3 rfl) ?_
      refine lv_aload_n hx hb dL_law__967 rfl (lv_at hl 5 rfl) ?_
      refine lv_iload hx hb dL_law__968 (lv_at hl 1 rfl) ?_
      refine lv_iconst (v := 1) hx hb dL_law__970 (by decide) ?_
      refine lv_iadd hx hb dL_law__971 ?_
      refine lv_topi (fun x_7 ex_7 => ?_)
      obtain rfl : x_7 = 1 := ex_7.trans (by decide)
      refine va_sld hx hb hX hbl hbA hS (pz_inK (by decide)) dL_law__972 ?_
      have hPc := hP.sub (ws' := [(g 0, .inr (13, [.ref (g 1), .int 0, .int 0, .int 0, .int 0, .int 0, .int 0, .int 0, .int 0, .int 0, .int (-1), .long 0, .long 0, .ref (g 14), .ref (g 15), .ref (g 16), .ref (g 17), .ref (g 18), .ref (g 19), .ref (g 20), .ref (g 21), .ref (g 22), .ref (g 23), .ref (g 24), .ref (g 25), .ref (g 26), .ref (g 27), .ref (g 28), .ref (g 29), .ref (g 30), .ref (g 31), .ref (g 32), .ref (g 33), .ref (g 34), .ref (g 35), .ref (g 36), .ref (g 37), .ref (g 38), .ref (g 39), .ref (g 40), .ref (g 41), .ref (g 42), .ref (g 43), .ref (g 44), .ref (g 45), .ref (g 46), .ref (g 47), .ref (g 48), .ref (g 49), .ref (g 50), .ref (g 51), .ref (g 52), .ref (g 53), .ref (g 54), .ref (g 55), .ref (g 56), .ref (g 57), .ref (g 58), .ref (g 59), .int 0, .int 0, .int 0, .int 0, .int 0, .int 0, .int 0, .int 0, .int 0, .int 0, .ref (g 70)]))]) [0] rfl
      have hDc := hD.sub (ws' := [(g 0, .inr (13, [.ref (g 1), .int 0, .int 0, .int 0, .int 0, .int 0, .int 0, .int 0, .int 0, .int 0, .int (-1), .long 0, .long 0, .ref (g 14), .ref (g 15), .ref (g 16), .ref (g 17), .ref (g 18), .ref (g 19), .ref (g 20), .ref (g 21), .ref (g 22), .ref (g 23), .ref (g 24), .ref (g 25), .ref (g 26), .ref (g 27), .ref (g 28), .ref (g 29), .ref (g 30), .ref (g 31), .ref (g 32), .ref (g 33), .ref (g 34), .ref (g 35), .ref (g 36), .ref (g 37), .ref (g 38), .ref (g 39), .ref (g 40), .ref (g 41), .ref (g 42), .ref (g 43), .ref (g 44), .ref (g 45), .ref (g 46), .ref (g 47), .ref (g 48), .ref (g 49), .ref (g 50), .ref (g 51), .ref (g 52), .ref (g 53), .ref (g 54), .ref (g 55), .ref (g 56), .ref (g 57), .ref (g 58), .ref (g 59), .int 0, .int 0, .int 0, .int 0, .int 0, .int 0, .int 0, .int 0, .int 0, .int 0, .ref (g 70)]))]) [0] (by decide) rfl
      have hKc := hK.sub (tys' := []) [] rfl
      have hFc := va_free (wc := [(g 0, .inr (13, [.ref (g 1), .int 0, .int 0, .int 0, .int 0, .int 0, .int 0, .int 0, .int 0, .int 0, .int (-1), .long 0, .long 0, .ref (g 14), .ref (g 15), .ref (g 16), .ref (g 17), .ref (g 18), .ref (g 19), .ref (g 20), .ref (g 21), .ref (g 22), .ref (g 23), .ref (g 24), .ref (g 25), .ref (g 26), .ref (g 27), .ref (g 28), .ref (g 29), .ref (g 30), .ref (g 31), .ref (g 32), .ref (g 33), .ref (g 34), .ref (g 35), .ref (g 36), .ref (g 37), .ref (g 38), .ref (g 39), .ref (g 40), .ref (g 41), .ref (g 42), .ref (g 43), .ref (g 44), .ref (g 45), .ref (g 46), .ref (g 47), .ref (g 48), .ref (g 49), .ref (g 50), .ref (g 51), .ref (g 52), .ref (g 53), .ref (g 54), .ref (g 55), .ref (g 56), .ref (g 57), .ref (g 58), .ref (g 59), .int 0, .int 0, .int 0, .int 0, .int 0, .int 0, .int 0, .int 0, .int 0, .int 0, .ref (g 70)]))]) hD hS hA [0] rfl
      refine va_calli (va_runV (As := [.int (xs (Int32.toNatClampNeg 1))]) (rest := []) ⟨hx, hb, hml, hown, hts⟩ (c_X12_hours l hlt e0 dC dI H.size g (xs (Int32.toNatClampNeg 1))) (cwV 1 hts gL_law__X12_hours rfl rfl rfl (by decide +kernel) ⟨Nat.le_of_ble_eq_true rfl, Nat.le_of_ble_eq_true rfl⟩) (pz_preV [.int (xs (Int32.toNatClampNeg 1))] hPc hDc hKc hZ hV hT hS hFc (va_recv hKc hPc (ci := 13) (q0 := 0) rfl rfl)) rfl rfl hl.1 rfl (lv_room (Nat.le_of_ble_eq_true rfl)) dL_law__973 ⟨Nat.le_of_ble_eq_true rfl, Nat.le_of_ble_eq_true rfl⟩) hS (fun q _ h => hFc q h) hFc (fun r_8 u_9 t H locs ht hvm hw_10 hB_11 hz1 hk1 hS => ?_)
      obtain ⟨hP1, hD1⟩ := hB_11
      rw [ht] at hP1
      obtain ⟨hP, hD⟩ := va_join (wr := [(qo, .inl (cO, 1, .inr (.inl u_3)))]) (w1 := [(g 0, .inr (13, u_9))]) hP hD [0] [1] rfl rfl (by decide) (by decide) hk1 hFc hP1 hD1
      have hP : va_P (dC, dI) vwCl [(qo, .inl (cO, 1, .inr (.inl u_3))), (g 0, .inr (13, u_9))] H := hP
      have hD : va_D A [(qo, .inl (cO, 1, .inr (.inl u_3))), (g 0, .inr (13, u_9))] := hD
      rcases hw_10 with ⟨hC2, hfs⟩ | ⟨hC2, hfs, rfl⟩
      ·
        refine lv_istore (lv' := [(6, .int r_8), (5, .int 1), (4, .int 0), (3, .ref qo), (2, .ref (g 0)), (1, .ref (h 0)), (0, .ref b)]) hx hb dL_law__976 hl (by decide) rfl (fun ls hl => ?_)
        refine lv_aload_n hx hb dL_law__978 rfl (lv_at hl 4 rfl) ?_
        have hPc := hP.sub (ws' := [(g 0, .inr (13, u_9))]) [1] rfl
        have hDc := hD.sub (ws' := [(g 0, .inr (13, u_9))]) [1] (by decide) rfl
        have hKc := hK.sub (tys' := []) [] rfl
        have hFc := va_free (wc := [(g 0, .inr (13, u_9))]) hD hS hA [1] rfl
        refine va_calli (va_runV (As := []) (rest := []) ⟨hx, hb, hml, hown, hts⟩ (c_X12_thrown l hlt e0 dC dI H.size (g 0) u_9 1 hfs) (cwV 0 hts gL_law__X12_thrown rfl rfl rfl (by decide +kernel) ⟨Nat.le_of_ble_eq_true rfl, Nat.le_of_ble_eq_true rfl⟩) (pz_preV [] hPc hDc hKc hZ hV hT hS hFc (va_recv hKc hPc (ci := 13) (q0 := 0) rfl rfl)) rfl rfl hl.1 rfl (lv_room (Nat.le_of_ble_eq_true rfl)) dL_law__979 ⟨Nat.le_of_ble_eq_true rfl, Nat.le_of_ble_eq_true rfl⟩) hS (fun q _ h => hFc q h) hFc (fun r_12 u_13 t H locs ht hvm hw_14 hB_15 hz1 hk1 hS => ?_)
        obtain ⟨hP, hD⟩ := pz_rest (wr := [(qo, .inl (cO, 1, .inr (.inl u_3)))]) hP hD [1] [0] rfl rfl (by decide) (by decide) hk1 hFc
        subst hw_14
        refine lv_iload hx hb dL_law__982 (lv_at hl 1 rfl) ?_
        refine lv_icmp_eq (tgt := 989) hx hb dL_law__984 (by decide) (fun c_16 => ?_) (fun c_16 => ?_)
        rotate_left
        · exact absurd c_16 (by decide)
        refine lv_iload hx hb dL_law__989 (lv_at hl 1 rfl) ?_
        refine lv_if_ne (tgt := 1006) hx hb dL_law__991 (by decide) (fun c_17 => ?_) (fun c_17 => ?_)
        rotate_left
        · exact absurd c_17 (by decide)
        refine lv_goto (tgt := 1743) hx hb dL_law__1006 (by decide) ?_
        exact lc_end l C0 (Nat.le_of_ble_eq_true rfl) (Nat.le_of_ble_eq_true rfl) hAe hS ls (lv_sub hl [2, 6] rfl)
      ·
        exact absurd hC hC2
    ·
      refine lv_istore (lv' := [(5, .int 0), (4, .int 0), (3, .ref qo), (2, .ref (g 0)), (1, .ref (h 0)), (0, .ref b)]) hx hb dL_law__964 hl (by decide) rfl (fun ls hl => ?_)
      refine lv_aload_n hx hb dL_law__966 rfl (lv_at hl 3 rfl) ?_
      refine lv_aload_n hx hb dL_law__967 rfl (lv_at hl 5 rfl) ?_
      refine lv_iload hx hb dL_law__968 (lv_at hl 1 rfl) ?_
      refine lv_iconst (v := 1) hx hb dL_law__970 (by decide) ?_
      refine lv_iadd hx hb dL_law__971 ?_
      refine lv_topi (fun x_18 ex_18 => ?_)
      obtain rfl : x_18 = 1 := ex_18.trans (by decide)
      refine va_sld hx hb hX hbl hbA hS (pz_inK (by decide)) dL_law__972 ?_
      have hPc := hP.sub (ws' := [(g 0, .inr (13, [.ref (g 1), .int 0, .int 0, .int 0, .int 0, .int 0, .int 0, .int 0, .int 0, .int 0, .int (-1), .long 0, .long 0, .ref (g 14), .ref (g 15), .ref (g 16), .ref (g 17), .ref (g 18), .ref (g 19), .ref (g 20), .ref (g 21), .ref (g 22), .ref (g 23), .ref (g 24), .ref (g 25), .ref (g 26), .ref (g 27), .ref (g 28), .ref (g 29), .ref (g 30), .ref (g 31), .ref (g 32), .ref (g 33), .ref (g 34), .ref (g 35), .ref (g 36), .ref (g 37), .ref (g 38), .ref (g 39), .ref (g 40), .ref (g 41), .ref (g 42), .ref (g 43), .ref (g 44), .ref (g 45), .ref (g 46), .ref (g 47), .ref (g 48), .ref (g 49), .ref (g 50), .ref (g 51), .ref (g 52), .ref (g 53), .ref (g 54), .ref (g 55), .ref (g 56), .ref (g 57), .ref (g 58), .ref (g 59), .int 0, .int 0, .int 0, .int 0, .int 0, .int 0, .int 0, .int 0, .int 0, .int 0, .ref (g 70)]))]) [0] rfl
      have hDc := hD.sub (ws' := [(g 0, .inr (13, [.ref (g 1), .int 0, .int 0, .int 0, .int 0, .int 0, .int 0, .int 0, .int 0, .int 0, .int (-1), .long 0, .long 0, .ref (g 14), .ref (g 15), .ref (g 16), .ref (g 17), .ref (g 18), .ref (g 19), .ref (g 20), .ref (g 21), .ref (g 22), .ref (g 23), .ref (g 24), .ref (g 25), .ref (g 26), .ref (g 27), .ref (g 28), .ref (g 29), .ref (g 30), .ref (g 31), .ref (g 32), .ref (g 33), .ref (g 34), .ref (g 35), .ref (g 36), .ref (g 37), .ref (g 38), .ref (g 39), .ref (g 40), .ref (g 41), .ref (g 42), .ref (g 43), .ref (g 44), .ref (g 45), .ref (g 46), .ref (g 47), .ref (g 48), .ref (g 49), .ref (g 50), .ref (g 51), .ref (g 52), .ref (g 53), .ref (g 54), .ref (g 55), .ref (g 56), .ref (g 57), .ref (g 58), .ref (g 59), .int 0, .int 0, .int 0, .int 0, .int 0, .int 0, .int 0, .int 0, .int 0, .int 0, .ref (g 70)]))]) [0] (by decide) rfl
      have hKc := hK.sub (tys' := []) [] rfl
      have hFc := va_free (wc := [(g 0, .inr (13, [.ref (g 1), .int 0, .int 0, .int 0, .int 0, .int 0, .int 0, .int 0, .int 0, .int 0, .int (-1), .long 0, .long 0, .ref (g 14), .ref (g 15), .ref (g 16), .ref (g 17), .ref (g 18), .ref (g 19), .ref (g 20), .ref (g 21), .ref (g 22), .ref (g 23), .ref (g 24), .ref (g 25), .ref (g 26), .ref (g 27), .ref (g 28), .ref (g 29), .ref (g 30), .ref (g 31), .ref (g 32), .ref (g 33), .ref (g 34), .ref (g 35), .ref (g 36), .ref (g 37), .ref (g 38), .ref (g 39), .ref (g 40), .ref (g 41), .ref (g 42), .ref (g 43), .ref (g 44), .ref (g 45), .ref (g 46), .ref (g 47), .ref (g 48), .ref (g 49), .ref (g 50), .ref (g 51), .ref (g 52), .ref (g 53), .ref (g 54), .ref (g 55), .ref (g 56), .ref (g 57), .ref (g 58), .ref (g 59), .int 0, .int 0, .int 0, .int 0, .int 0, .int 0, .int 0, .int 0, .int 0, .int 0, .ref (g 70)]))]) hD hS hA [0] rfl
      refine va_calli (va_runV (As := [.int (xs (Int32.toNatClampNeg 1))]) (rest := []) ⟨hx, hb, hml, hown, hts⟩ (c_X12_hours l hlt e0 dC dI H.size g (xs (Int32.toNatClampNeg 1))) (cwV 1 hts gL_law__X12_hours rfl rfl rfl (by decide +kernel) ⟨Nat.le_of_ble_eq_true rfl, Nat.le_of_ble_eq_true rfl⟩) (pz_preV [.int (xs (Int32.toNatClampNeg 1))] hPc hDc hKc hZ hV hT hS hFc (va_recv hKc hPc (ci := 13) (q0 := 0) rfl rfl)) rfl rfl hl.1 rfl (lv_room (Nat.le_of_ble_eq_true rfl)) dL_law__973 ⟨Nat.le_of_ble_eq_true rfl, Nat.le_of_ble_eq_true rfl⟩) hS (fun q _ h => hFc q h) hFc (fun r_19 u_20 t H locs ht hvm hw_21 hB_22 hz1 hk1 hS => ?_)
      obtain ⟨hP1, hD1⟩ := hB_22
      rw [ht] at hP1
      obtain ⟨hP, hD⟩ := va_join (wr := [(qo, .inl (cO, 1, .inr (.inl u_3)))]) (w1 := [(g 0, .inr (13, u_20))]) hP hD [0] [1] rfl rfl (by decide) (by decide) hk1 hFc hP1 hD1
      have hP : va_P (dC, dI) vwCl [(qo, .inl (cO, 1, .inr (.inl u_3))), (g 0, .inr (13, u_20))] H := hP
      have hD : va_D A [(qo, .inl (cO, 1, .inr (.inl u_3))), (g 0, .inr (13, u_20))] := hD
      rcases hw_21 with ⟨hC2, hfs⟩ | ⟨hC2, hfs, rfl⟩
      ·
        exact absurd hC2 hC
      ·
        refine lv_istore (lv' := [(6, .int (xs (Int32.toNatClampNeg 1))), (5, .int 0), (4, .int 0), (3, .ref qo), (2, .ref (g 0)), (1, .ref (h 0)), (0, .ref b)]) hx hb dL_law__976 hl (by decide) rfl (fun ls hl => ?_)
        refine lv_aload_n hx hb dL_law__978 rfl (lv_at hl 4 rfl) ?_
        have hPc := hP.sub (ws' := [(g 0, .inr (13, u_20))]) [1] rfl
        have hDc := hD.sub (ws' := [(g 0, .inr (13, u_20))]) [1] (by decide) rfl
        have hKc := hK.sub (tys' := []) [] rfl
        have hFc := va_free (wc := [(g 0, .inr (13, u_20))]) hD hS hA [1] rfl
        refine va_calli (va_runV (As := []) (rest := []) ⟨hx, hb, hml, hown, hts⟩ (c_X12_thrown l hlt e0 dC dI H.size (g 0) u_20 0 hfs) (cwV 0 hts gL_law__X12_thrown rfl rfl rfl (by decide +kernel) ⟨Nat.le_of_ble_eq_true rfl, Nat.le_of_ble_eq_true rfl⟩) (pz_preV [] hPc hDc hKc hZ hV hT hS hFc (va_recv hKc hPc (ci := 13) (q0 := 0) rfl rfl)) rfl rfl hl.1 rfl (lv_room (Nat.le_of_ble_eq_true rfl)) dL_law__979 ⟨Nat.le_of_ble_eq_true rfl, Nat.le_of_ble_eq_true rfl⟩) hS (fun q _ h => hFc q h) hFc (fun r_23 u_24 t H locs ht hvm hw_25 hB_26 hz1 hk1 hS => ?_)
        obtain ⟨hP, hD⟩ := pz_rest (wr := [(qo, .inl (cO, 1, .inr (.inl u_3)))]) hP hD [1] [0] rfl rfl (by decide) (by decide) hk1 hFc
        subst hw_25
        refine lv_iload hx hb dL_law__982 (lv_at hl 1 rfl) ?_
        refine lv_icmp_eq (tgt := 989) hx hb dL_law__984 (by decide) (fun c_27 => ?_) (fun c_27 => ?_)
        rotate_left
        · exact absurd c_27 (by decide)
        refine lv_iload hx hb dL_law__989 (lv_at hl 1 rfl) ?_
        refine lv_if_ne (tgt := 1006) hx hb dL_law__991 (by decide) (fun c_28 => ?_) (fun c_28 => ?_)
        · exact absurd c_28 (by decide)
        refine lv_aload_n hx hb dL_law__994 rfl (lv_at hl 3 rfl) ?_
        refine lv_iconst (v := 0) hx hb dL_law__995 (by decide) ?_
        refine va_lald hx hb hK hP 0 0 rfl rfl (pz_inK (by decide)) dL_law__996 ?_
        rw [hval]
        refine lv_iload hx hb dL_law__997 (lv_at hl 0 rfl) ?_
        refine lv_i2l hx hb dL_law__999 rfl ?_
        refine W.lcmp hx hb dL_law__1000 ?_
        refine lv_topi (fun x_29 ex_29 => ?_)
        obtain rfl : x_29 = 0 := ex_29.trans (by simp [lg_cmp])
        refine lv_if_eq (tgt := 1006) hx hb dL_law__1001 (by decide) (fun c_30 => ?_) (fun c_30 => ?_)
        rotate_left
        · exact absurd c_30 (by decide)
        refine lv_goto (tgt := 1743) hx hb dL_law__1006 (by decide) ?_
        exact lc_end l C0 (Nat.le_of_ble_eq_true rfl) (Nat.le_of_ble_eq_true rfl) hAe hS ls (lv_sub hl [2, 6] rfl)

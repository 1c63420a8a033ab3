theorem dL_law__873 : decode cL_law_ 873 = .ok (.aload_n 1, 1) := by decide +kernel
theorem dL_law__874 : decode cL_law_ 874 = .ok (.aload_n 0, 1) := by decide +kernel
theorem dL_law__875 : decode cL_law_ 875 = .ok (.iload 4, 2) := by decide +kernel
theorem dL_law__877 : decode cL_law_ 877 = .ok (.iconst 1, 1) := by decide +kernel
theorem dL_law__878 : decode cL_law_ 878 = .ok (.iadd, 1) := by decide +kernel
theorem dL_law__879 : decode cL_law_ 879 = .ok (.iaload, 1) := by decide +kernel
theorem dL_law__880 : decode cL_law_ 880 = .ok (.aload_n 0, 1) := by decide +kernel
theorem dL_law__881 : decode cL_law_ 881 = .ok (.iload 4, 2) := by decide +kernel
theorem dL_law__883 : decode cL_law_ 883 = .ok (.iconst 2, 1) := by decide +kernel
theorem dL_law__884 : decode cL_law_ 884 = .ok (.iadd, 1) := by decide +kernel
theorem dL_law__885 : decode cL_law_ 885 = .ok (.iaload, 1) := by decide +kernel
theorem dL_law__886 : decode cL_law_ 886 = .ok (.aload_n 0, 1) := by decide +kernel
theorem dL_law__887 : decode cL_law_ 887 = .ok (.iload 4, 2) := by decide +kernel
theorem dL_law__889 : decode cL_law_ 889 = .ok (.iconst 3, 1) := by decide +kernel
theorem dL_law__890 : decode cL_law_ 890 = .ok (.iadd, 1) := by decide +kernel
theorem dL_law__891 : decode cL_law_ 891 = .ok (.iaload, 1) := by decide +kernel
theorem dL_law__892 : decode cL_law_ 892 = .ok (.aload_n 3, 1) := by decide +kernel
theorem dL_law__893 : decode cL_law_ 893 = .ok (.invokestatic 132, 3) := by decide +kernel
theorem dL_law__896 : decode cL_law_ 896 = .ok (.istore 5, 2) := by decide +kernel
theorem dL_law__898 : decode cL_law_ 898 = .ok (.aload_n 2, 1) := by decide +kernel
theorem dL_law__899 : decode cL_law_ 899 = .ok (.aload_n 0, 1) := by decide +kernel
theorem dL_law__900 : decode cL_law_ 900 = .ok (.iload 4, 2) := by decide +kernel
theorem dL_law__902 : decode cL_law_ 902 = .ok (.iconst 1, 1) := by decide +kernel
theorem dL_law__903 : decode cL_law_ 903 = .ok (.iadd, 1) := by decide +kernel
theorem dL_law__904 : decode cL_law_ 904 = .ok (.iaload, 1) := by decide +kernel
theorem dL_law__905 : decode cL_law_ 905 = .ok (.aload_n 0, 1) := by decide +kernel
theorem dL_law__906 : decode cL_law_ 906 = .ok (.iload 4, 2) := by decide +kernel
theorem dL_law__908 : decode cL_law_ 908 = .ok (.iconst 2, 1) := by decide +kernel
theorem dL_law__909 : decode cL_law_ 909 = .ok (.iadd, 1) := by decide +kernel
theorem dL_law__910 : decode cL_law_ 910 = .ok (.iaload, 1) := by decide +kernel
theorem dL_law__911 : decode cL_law_ 911 = .ok (.aload_n 0, 1) := by decide +kernel
theorem dL_law__912 : decode cL_law_ 912 = .ok (.iload 4, 2) := by decide +kernel
theorem dL_law__914 : decode cL_law_ 914 = .ok (.iconst 3, 1) := by decide +kernel
theorem dL_law__915 : decode cL_law_ 915 = .ok (.iadd, 1) := by decide +kernel
theorem dL_law__916 : decode cL_law_ 916 = .ok (.iaload, 1) := by decide +kernel
theorem dL_law__917 : decode cL_law_ 917 = .ok (.invokevirtual 134, 3) := by decide +kernel
theorem dL_law__920 : decode cL_law_ 920 = .ok (.istore 6, 2) := by decide +kernel
theorem dL_law__922 : decode cL_law_ 922 = .ok (.aload_n 2, 1) := by decide +kernel
theorem dL_law__923 : decode cL_law_ 923 = .ok (.invokevirtual 95, 3) := by decide +kernel
theorem dL_law__926 : decode cL_law_ 926 = .ok (.iload 5, 2) := by decide +kernel
theorem dL_law__928 : decode cL_law_ 928 = .ok (.if_icmp .eq 5, 3) := by decide +kernel
theorem dL_law__933 : decode cL_law_ 933 = .ok (.iload 5, 2) := by decide +kernel
theorem dL_law__935 : decode cL_law_ 935 = .ok (.ifCond .ne 15, 3) := by decide +kernel
theorem dL_law__950 : decode cL_law_ 950 = .ok (.goto 793, 3) := by decide +kernel
set_option maxRecDepth 20000 in
theorem ggL_law__L_let : GoodIn wsL_law_ wsL_let := goodIn_ca (goodIn_r _ [662, 248, 663, 664, 665, 2, 666, 667, 32, 351, 668, 669, 670, 671, 672, 260, 261, 17, 673, 144, 145, 146, 15, 147, 148, 149, 150, 151, 152, 153, 154, 155, 156, 157, 158, 159, 160, 161, 162, 163, 164, 165, 166, 167, 39, 256, 257, 258, 259, 16, 135, 674, 675, 676, 139, 677, 678, 679, 680, 18, 681, 682, 683, 684, 685, 31, 686, 687, 688, 689, 690, 691, 692, 693, 694, 695, 696, 697, 698, 75, 699, 700, 701, 702, 703, 704, 705, 706, 74, 707, 708, 709, 710, 711, 712, 713, 714, 715, 716, 138, 717, 176, 718, 719, 172, 720, 721, 722, 723, 724, 725, 726, 727, 728, 187, 188, 189, 190, 191, 192, 193, 194, 195, 196, 197, 198, 199, 200, 201, 202, 203, 38, 204, 205, 206, 207, 208, 209, 210, 211, 212, 213, 214, 215, 216, 217, 218, 219, 220, 221, 222, 223, 224, 225, 226, 227, 228, 229, 230, 231, 232, 233, 234, 235, 236, 237, 729, 730, 731, 640, 732, 650, 651, 652, 1241, 1242, 1243, 1244, 1245, 1246, 1247, 1248, 1249, 1112, 1113, 1114, 1115, 1116, 1117, 1118, 1119, 1120, 1121, 1122, 1123, 1124, 1125, 1206, 1207, 1208, 1209, 1210, 1196, 1197, 1198, 1216, 1217, 1218, 1219, 1220, 1221, 1222, 1223, 1224, 1225, 1226, 1227, 1228, 1239, 1240, 1229, 1230, 1231, 1232] (by decide +kernel) (by decide +kernel)) (goodIn_sub (fun _ h => List.mem_append_left _ (List.mem_append_right _ h)) (by decide +kernel))
set_option maxRecDepth 20000 in
theorem gL_law__L_let : GoodIn wsL_law_ (va_wsS RL 132 yL_let wsL_let) := goodIn_app (goodIn_of _ (by decide +kernel)) ggL_law__L_let
set_option maxRecDepth 20000 in
theorem ggL_law__X12_let : GoodIn wsL_law_ wsX12_let := goodIn_r _ [736, 242, 109, 737, 738, 739, 5, 740, 658, 741, 742, 743, 744, 84, 267, 268, 269, 270, 243, 271, 272, 273, 274, 745, 746, 747, 748, 559, 124, 374, 125, 129, 126, 749, 750, 751, 752, 753, 127, 128, 754, 755, 756, 757, 106, 107, 108, 112, 758, 759, 760, 761, 762, 763, 764, 102, 85, 104, 765, 766, 767, 768, 769, 770, 771, 103, 110, 111, 1126, 1127, 1128, 1129, 1130, 1131, 1132, 1133, 1134, 1135, 1136, 1137, 1138, 1139, 1140, 1141, 1142, 1143, 1144, 1145, 1146, 1147, 1148, 1149, 1150, 1151, 1152, 1153, 1154, 1155, 1156, 1157, 1158, 1159, 1160, 1161, 1162, 1163, 1164, 1165, 1166, 1167, 1168, 1169, 1170, 1171, 1172, 1173, 1174, 1175, 1176, 1177, 1178, 1179, 1180, 1181, 1182, 1183, 1184, 1185, 1186, 1187, 1188, 1189, 1190, 1191, 1192, 1193, 1194, 1195] (by decide +kernel) (by decide +kernel)
set_option maxRecDepth 20000 in
theorem gL_law__X12_let : GoodIn wsL_law_ (wsV RL 134 RX12 yX12_let wsX12_let) := goodIn_app (goodIn_of _ (by decide +kernel)) ggL_law__X12_let
set_option maxHeartbeats 8000000 in
set_option maxRecDepth 100000 in
/-- the law's case 11: let -/
theorem lc_let {p : Program} {e : Env} {s : State} {m : MethodId} {below : List Frame} {meth : Method} {c : Code} (l : Launch) (hlt : l.stackTraces = false) {b : Nat} {xs : Nat → Int32} (C0 : lw_At p s m meth c b 6 xs) (e0 : Nat) (dC : Nat → ClassId) (dI : Nat → Nat → Nat) (h g : Nat → Nat) (ca cb : Nat → ClassId) (qo : Nat) (cO : ClassId) (fo : Nat → Int64) {A : Nat → Prop} (hAe : (fun q : Nat => s.heap.size ≤ q) = A) {H : Heap} {locs : List Loc} (hK : va_K (dC, dI) vwCl [(cO, .long)] s) (hP : va_P (dC, dI) vwCl [(h 0, .inr (12, [.ref (h 1), .ref (h 2), .ref (h 3), .ref (h 4), .ref (h 5), .ref (h 6), .ref (h 8), .ref (h 12), .ref (h 11), .int 0, .int 0, .int (-1), .long 0, .long 0])), (h 2, .inr (0, [.int 0, .ref e0, .int 0])), (qo, .inl (cO, 1, .inr (.inl fo))), (g 0, .inr (13, [.ref (g 1), .int 0, .int 0, .int 0, .int 0, .int 0, .int 0, .int 0, .int 0, .int 0, .int (-1), .long 0, .long 0, .ref (g 14), .ref (g 15), .ref (g 16), .ref (g 17), .ref (g 18), .ref (g 19), .ref (g 20), .ref (g 21), .ref (g 22), .ref (g 23), .ref (g 24), .ref (g 25), .ref (g 26), .ref (g 27), .ref (g 28), .ref (g 29), .ref (g 30), .ref (g 31), .ref (g 32), .ref (g 33), .ref (g 34), .ref (g 35), .ref (g 36), .ref (g 37), .ref (g 38), .ref (g 39), .ref (g 40), .ref (g 41), .ref (g 42), .ref (g 43), .ref (g 44), .ref (g 45), .ref (g 46), .ref (g 47), .ref (g 48), .ref (g 49), .ref (g 50), .ref (g 51), .ref (g 52), .ref (g 53), .ref (g 54), .ref (g 55), .ref (g 56), .ref (g 57), .ref (g 58), .ref (g 59), .int 0, .int 0, .int 0, .int 0, .int 0, .int 0, .int 0, .int 0, .int 0, .int 0, .ref (g 70)]))] H) (hD : va_D A [(h 0, .inr (12, [.ref (h 1), .ref (h 2), .ref (h 3), .ref (h 4), .ref (h 5), .ref (h 6), .ref (h 8), .ref (h 12), .ref (h 11), .int 0, .int 0, .int (-1), .long 0, .long 0])), (h 2, .inr (0, [.int 0, .ref e0, .int 0])), (qo, .inl (cO, 1, .inr (.inl fo))), (g 0, .inr (13, [.ref (g 1), .int 0, .int 0, .int 0, .int 0, .int 0, .int 0, .int 0, .int 0, .int 0, .int (-1), .long 0, .long 0, .ref (g 14), .ref (g 15), .ref (g 16), .ref (g 17), .ref (g 18), .ref (g 19), .ref (g 20), .ref (g 21), .ref (g 22), .ref (g 23), .ref (g 24), .ref (g 25), .ref (g 26), .ref (g 27), .ref (g 28), .ref (g 29), .ref (g 30), .ref (g 31), .ref (g 32), .ref (g 33), .ref (g 34), .ref (g 35), .ref (g 36), .ref (g 37), .ref (g 38), .ref (g 39), .ref (g 40), .ref (g 41), .ref (g 42), .ref (g 43), .ref (g 44), .ref (g 45), .ref (g 46), .ref (g 47), .ref (g 48), .ref (g 49), .ref (g 50), .ref (g 51), .ref (g 52), .ref (g 53), .ref (g 54), .ref (g 55), .ref (g 56), .ref (g 57), .ref (g 58), .ref (g 59), .int 0, .int 0, .int 0, .int 0, .int 0, .int 0, .int 0, .int 0, .int 0, .int 0, .ref (g 70)]))]) (hS : va_S A s.heap H locs) (hZ : pz_s e0 A s s.heap) (hV : pz_v s) (hT : pz_t A s s.heap) (ls : Array Slot) (hl : lv_has ls 8 [(4, .int 0), (3, .ref qo), (2, .ref (g 0)), (1, .ref (h 0)), (0, .ref b)]) : W p l e room_1 s m #[Value.ref b] below meth c H locs 300 100000 (lw_Z below #[Value.ref b] s) (F0 m 873 ls []) := by
  obtain ⟨hx, hb, hr, hml, hown, hts, hX, hbl, hlocks, hgv⟩ := id C0
  have hown : s.vm.findClass RL = some m.cls := hown
  have hts := fun w h => hts w (wsL_law__in w h)
  have hA : ∀ q : Nat, s.heap.size ≤ q → A q := fun q h => by rw [← hAe]; exact h
  have hbA : ¬ A b := by rw [← hAe]; exact Nat.not_le.mpr hbl
  refine lv_aload_n hx hb dL_law__873 rfl (lv_at hl 3 rfl) ?_
  refine lv_aload_n hx hb dL_law__874 rfl (lv_at hl 4 rfl) ?_
  refine lv_iload hx hb dL_law__875 (lv_at hl 0 rfl) ?_
  refine lv_iconst (v := 1) hx hb dL_law__877 (by decide) ?_
  refine lv_iadd hx hb dL_law__878 ?_
  refine lv_topi (fun x_1 ex_1 => ?_)
  obtain rfl : x_1 = 1 := ex_1.trans (by decide)
  refine va_sld hx hb hX hbl hbA hS (pz_inK (by decide)) dL_law__879 ?_
  refine lv_aload_n hx hb dL_law__880 rfl (lv_at hl 4 rfl) ?_
  refine lv_iload hx hb dL_law__881 (lv_at hl 0 rfl) ?_
  refine lv_iconst (v := 2) hx hb dL_law__883 (by decide) ?_
  refine lv_iadd hx hb dL_law__884 ?_
  refine lv_topi (fun x_2 ex_2 => ?_)
  obtain rfl : x_2 = 2 := ex_2.trans (by decide)
  refine va_sld hx hb hX hbl hbA hS (pz_inK (by decide)) dL_law__885 ?_
  refine lv_aload_n hx hb dL_law__886 rfl (lv_at hl 4 rfl) ?_
  refine lv_iload hx hb dL_law__887 (lv_at hl 0 rfl) ?_
  refine lv_iconst (v := 3) hx hb dL_law__889 (by decide) ?_
  refine lv_iadd hx hb dL_law__890 ?_
  refine lv_topi (fun x_3 ex_3 => ?_)
  obtain rfl : x_3 = 3 := ex_3.trans (by decide)
  refine va_sld hx hb hX hbl hbA hS (pz_inK (by decide)) dL_law__891 ?_
  refine lv_aload_n hx hb dL_law__892 rfl (lv_at hl 1 rfl) ?_
  have hPc := hP.sub (ws' := [(h 0, .inr (12, [.ref (h 1), .ref (h 2), .ref (h 3), .ref (h 4), .ref (h 5), .ref (h 6), .ref (h 8), .ref (h 12), .ref (h 11), .int 0, .int 0, .int (-1), .long 0, .long 0])), (h 2, .inr (0, [.int 0, .ref e0, .int 0])), (qo, .inl (cO, 1, .inr (.inl fo)))]) [0, 1, 2] rfl
  have hDc := hD.sub (ws' := [(h 0, .inr (12, [.ref (h 1), .ref (h 2), .ref (h 3), .ref (h 4), .ref (h 5), .ref (h 6), .ref (h 8), .ref (h 12), .ref (h 11), .int 0, .int 0, .int (-1), .long 0, .long 0])), (h 2, .inr (0, [.int 0, .ref e0, .int 0])), (qo, .inl (cO, 1, .inr (.inl fo)))]) [0, 1, 2] (by decide) rfl
  have hKc := hK.sub (tys' := [(cO, .long)]) [0] rfl
  have hFc := va_free (wc := [(h 0, .inr (12, [.ref (h 1), .ref (h 2), .ref (h 3), .ref (h 4), .ref (h 5), .ref (h 6), .ref (h 8), .ref (h 12), .ref (h 11), .int 0, .int 0, .int (-1), .long 0, .long 0])), (h 2, .inr (0, [.int 0, .ref e0, .int 0])), (qo, .inl (cO, 1, .inr (.inl fo)))]) hD hS hA [0, 1, 2] rfl
  refine vx_calli (vx_runSX (As := [.ref (h 0), .int (xs (Int32.toNatClampNeg 1)), .int (xs (Int32.toNatClampNeg 2)), .int (xs (Int32.toNatClampNeg 3)), .ref qo]) (rest := []) ⟨hx, hb, hml, hown, hts⟩ (c_L_let l hlt e0 dC dI H.size h qo cO fo (xs (Int32.toNatClampNeg 1)) (xs (Int32.toNatClampNeg 2)) (xs (Int32.toNatClampNeg 3))) (vx_cwSW 5 hts gL_law__L_let rfl rfl rfl (by decide +kernel) ⟨Nat.le_of_ble_eq_true rfl, Nat.le_of_ble_eq_true rfl⟩) (pz_preS [.ref (h 0), .int (xs (Int32.toNatClampNeg 1)), .int (xs (Int32.toNatClampNeg 2)), .int (xs (Int32.toNatClampNeg 3)), .ref qo] hPc hDc hKc hZ hV hT hS hFc) rfl rfl hl.1 rfl (lv_room (Nat.le_of_ble_eq_true rfl)) dL_law__893 ⟨Nat.le_of_ble_eq_true rfl, Nat.le_of_ble_eq_true rfl⟩) hS (fun q _ h => hFc q h) hFc (fun q _ h => hFc q h) (fun E ce qx_8 u_5 t H locs ht hvm hpx hE hz1 hk1 hS hce hcv hcl => ?_) (fun r_4 u_5 t H locs ht hvm hw_6 hB_7 hz1 hk1 hS => ?_)
  ·
    exact hpx.elim
  ·
    obtain ⟨hP, hD⟩ := pz_rest (wr := [(g 0, .inr (13, [.ref (g 1), .int 0, .int 0, .int 0, .int 0, .int 0, .int 0, .int 0, .int 0, .int 0, .int (-1), .long 0, .long 0, .ref (g 14), .ref (g 15), .ref (g 16), .ref (g 17), .ref (g 18), .ref (g 19), .ref (g 20), .ref (g 21), .ref (g 22), .ref (g 23), .ref (g 24), .ref (g 25), .ref (g 26), .ref (g 27), .ref (g 28), .ref (g 29), .ref (g 30), .ref (g 31), .ref (g 32), .ref (g 33), .ref (g 34), .ref (g 35), .ref (g 36), .ref (g 37), .ref (g 38), .ref (g 39), .ref (g 40), .ref (g 41), .ref (g 42), .ref (g 43), .ref (g 44), .ref (g 45), .ref (g 46), .ref (g 47), .ref (g 48), .ref (g 49), .ref (g 50), .ref (g 51), .ref (g 52), .ref (g 53), .ref (g 54), .ref (g 55), .ref (g 56), .ref (g 57), .ref (g 58), .ref (g 59), .int 0, .int 0, .int 0, .int 0, .int 0, .int 0, .int 0, .int 0, .int 0, .int 0, .ref (g 70)]))]) hP hD [0, 1, 2] [3] rfl rfl (by decide) (by decide) hk1 hFc
    subst hw_6
    refine lv_istore (lv' := [(5, .int 1), (4, .int 0), (3, .ref qo), (2, .ref (g 0)), (1, .ref (h 0)), (0, .ref b)]) hx hb dL_law__896 hl (by decide) rfl (fun ls hl => ?_)
    refine lv_aload_n hx hb dL_law__898 rfl (lv_at hl 3 rfl) ?_
    refine lv_aload_n hx hb dL_law__899 rfl (lv_at hl 5 rfl) ?_
    refine lv_iload hx hb dL_law__900 (lv_at hl 1 rfl) ?_
    refine lv_iconst (v := 1) hx hb dL_law__902 (by decide) ?_
    refine lv_iadd hx hb dL_law__903 ?_
    refine lv_topi (fun x_9 ex_9 => ?_)
    obtain rfl : x_9 = 1 := ex_9.trans (by decide)
    refine va_sld hx hb hX hbl hbA hS (pz_inK (by decide)) dL_law__904 ?_
    refine lv_aload_n hx hb dL_law__905 rfl (lv_at hl 5 rfl) ?_
    refine lv_iload hx hb dL_law__906 (lv_at hl 1 rfl) ?_
    refine lv_iconst (v := 2) hx hb dL_law__908 (by decide) ?_
    refine lv_iadd hx hb dL_law__909 ?_
    refine lv_topi (fun x_10 ex_10 => ?_)
    obtain rfl : x_10 = 2 := ex_10.trans (by decide)
    refine va_sld hx hb hX hbl hbA hS (pz_inK (by decide)) dL_law__910 ?_
    refine lv_aload_n hx hb dL_law__911 rfl (lv_at hl 5 rfl) ?_
    refine lv_iload hx hb dL_law__912 (lv_at hl 1 rfl) ?_
    refine lv_iconst (v := 3) hx hb dL_law__914 (by decide) ?_
    refine lv_iadd hx hb dL_law__915 ?_
    refine lv_topi (fun x_11 ex_11 => ?_)
    obtain rfl : x_11 = 3 := ex_11.trans (by decide)
    refine va_sld hx hb hX hbl hbA hS (pz_inK (by decide)) dL_law__916 ?_
    have hPc := hP.sub (ws' := [(g 0, .inr (13, [.ref (g 1), .int 0, .int 0, .int 0, .int 0, .int 0, .int 0, .int 0, .int 0, .int 0, .int (-1), .long 0, .long 0, .ref (g 14), .ref (g 15), .ref (g 16), .ref (g 17), .ref (g 18), .ref (g 19), .ref (g 20), .ref (g 21), .ref (g 22), .ref (g 23), .ref (g 24), .ref (g 25), .ref (g 26), .ref (g 27), .ref (g 28), .ref (g 29), .ref (g 30), .ref (g 31), .ref (g 32), .ref (g 33), .ref (g 34), .ref (g 35), .ref (g 36), .ref (g 37), .ref (g 38), .ref (g 39), .ref (g 40), .ref (g 41), .ref (g 42), .ref (g 43), .ref (g 44), .ref (g 45), .ref (g 46), .ref (g 47), .ref (g 48), .ref (g 49), .ref (g 50), .ref (g 51), .ref (g 52), .ref (g 53), .ref (g 54), .ref (g 55), .ref (g 56), .ref (g 57), .ref (g 58), .ref (g 59), .int 0, .int 0, .int 0, .int 0, .int 0, .int 0, .int 0, .int 0, .int 0, .int 0, .ref (g 70)]))]) [0] rfl
    have hDc := hD.sub (ws' := [(g 0, .inr (13, [.ref (g 1), .int 0, .int 0, .int 0, .int 0, .int 0, .int 0, .int 0, .int 0, .int 0, .int (-1), .long 0, .long 0, .ref (g 14), .ref (g 15), .ref (g 16), .ref (g 17), .ref (g 18), .ref (g 19), .ref (g 20), .ref (g 21), .ref (g 22), .ref (g 23), .ref (g 24), .ref (g 25), .ref (g 26), .ref (g 27), .ref (g 28), .ref (g 29), .ref (g 30), .ref (g 31), .ref (g 32), .ref (g 33), .ref (g 34), .ref (g 35), .ref (g 36), .ref (g 37), .ref (g 38), .ref (g 39), .ref (g 40), .ref (g 41), .ref (g 42), .ref (g 43), .ref (g 44), .ref (g 45), .ref (g 46), .ref (g 47), .ref (g 48), .ref (g 49), .ref (g 50), .ref (g 51), .ref (g 52), .ref (g 53), .ref (g 54), .ref (g 55), .ref (g 56), .ref (g 57), .ref (g 58), .ref (g 59), .int 0, .int 0, .int 0, .int 0, .int 0, .int 0, .int 0, .int 0, .int 0, .int 0, .ref (g 70)]))]) [0] (by decide) rfl
    have hKc := hK.sub (tys' := []) [] rfl
    have hFc := va_free (wc := [(g 0, .inr (13, [.ref (g 1), .int 0, .int 0, .int 0, .int 0, .int 0, .int 0, .int 0, .int 0, .int 0, .int (-1), .long 0, .long 0, .ref (g 14), .ref (g 15), .ref (g 16), .ref (g 17), .ref (g 18), .ref (g 19), .ref (g 20), .ref (g 21), .ref (g 22), .ref (g 23), .ref (g 24), .ref (g 25), .ref (g 26), .ref (g 27), .ref (g 28), .ref (g 29), .ref (g 30), .ref (g 31), .ref (g 32), .ref (g 33), .ref (g 34), .ref (g 35), .ref (g 36), .ref (g 37), .ref (g 38), .ref (g 39), .ref (g 40), .ref (g 41), .ref (g 42), .ref (g 43), .ref (g 44), .ref (g 45), .ref (g 46), .ref (g 47), .ref (g 48), .ref (g 49), .ref (g 50), .ref (g 51), .ref (g 52), .ref (g 53), .ref (g 54), .ref (g 55), .ref (g 56), .ref (g 57), .ref (g 58), .ref (g 59), .int 0, .int 0, .int 0, .int 0, .int 0, .int 0, .int 0, .int 0, .int 0, .int 0, .ref (g 70)]))]) hD hS hA [0] rfl
    refine va_calli (va_runV (As := [.int (xs (Int32.toNatClampNeg 1)), .int (xs (Int32.toNatClampNeg 2)), .int (xs (Int32.toNatClampNeg 3))]) (rest := []) ⟨hx, hb, hml, hown, hts⟩ (c_X12_let l hlt e0 dC dI H.size g (xs (Int32.toNatClampNeg 1)) (xs (Int32.toNatClampNeg 2)) (xs (Int32.toNatClampNeg 3))) (cwV 3 hts gL_law__X12_let rfl rfl rfl (by decide +kernel) ⟨Nat.le_of_ble_eq_true rfl, Nat.le_of_ble_eq_true rfl⟩) (pz_preV [.int (xs (Int32.toNatClampNeg 1)), .int (xs (Int32.toNatClampNeg 2)), .int (xs (Int32.toNatClampNeg 3))] hPc hDc hKc hZ hV hT hS hFc (va_recv hKc hPc (ci := 13) (q0 := 0) rfl rfl)) rfl rfl hl.1 rfl (lv_room (Nat.le_of_ble_eq_true rfl)) dL_law__917 ⟨Nat.le_of_ble_eq_true rfl, Nat.le_of_ble_eq_true rfl⟩) hS (fun q _ h => hFc q h) hFc (fun r_12 u_13 t H locs ht hvm hw_14 hB_15 hz1 hk1 hS => ?_)
    obtain ⟨hP1, hD1⟩ := hB_15
    rw [ht] at hP1
    obtain ⟨hP, hD⟩ := va_join (wr := []) (w1 := [(g 0, .inr (13, u_13))]) hP hD [0] [] rfl rfl (by decide) (by decide) hk1 hFc hP1 hD1
    have hP : va_P (dC, dI) vwCl [(g 0, .inr (13, u_13))] H := hP
    have hD : va_D A [(g 0, .inr (13, u_13))] := hD
    refine lv_istore (lv' := [(6, .int r_12), (5, .int 1), (4, .int 0), (3, .ref qo), (2, .ref (g 0)), (1, .ref (h 0)), (0, .ref b)]) hx hb dL_law__920 hl (by decide) rfl (fun ls hl => ?_)
    refine lv_aload_n hx hb dL_law__922 rfl (lv_at hl 4 rfl) ?_
    have hPc := hP.sub (ws' := [(g 0, .inr (13, u_13))]) [0] rfl
    have hDc := hD.sub (ws' := [(g 0, .inr (13, u_13))]) [0] (by decide) rfl
    have hKc := hK.sub (tys' := []) [] rfl
    have hFc := va_free (wc := [(g 0, .inr (13, u_13))]) hD hS hA [0] rfl
    refine va_calli (va_runV (As := []) (rest := []) ⟨hx, hb, hml, hown, hts⟩ (c_X12_thrown l hlt e0 dC dI H.size (g 0) u_13 1 hw_14) (cwV 0 hts gL_law__X12_thrown rfl rfl rfl (by decide +kernel) ⟨Nat.le_of_ble_eq_true rfl, Nat.le_of_ble_eq_true rfl⟩) (pz_preV [] hPc hDc hKc hZ hV hT hS hFc (va_recv hKc hPc (ci := 13) (q0 := 0) rfl rfl)) rfl rfl hl.1 rfl (lv_room (Nat.le_of_ble_eq_true rfl)) dL_law__923 ⟨Nat.le_of_ble_eq_true rfl, Nat.le_of_ble_eq_true rfl⟩) hS (fun q _ h => hFc q h) hFc (fun r_16 u_17 t H locs ht hvm hw_18 hB_19 hz1 hk1 hS => ?_)
    obtain ⟨hP, hD⟩ := pz_rest (wr := []) hP hD [0] [] rfl rfl (by decide) (by decide) hk1 hFc
    subst hw_18
    refine lv_iload hx hb dL_law__926 (lv_at hl 1 rfl) ?_
    refine lv_icmp_eq (tgt := 933) hx hb dL_law__928 (by decide) (fun c_20 => ?_) (fun c_20 => ?_)
    rotate_left
    · exact absurd c_20 (by decide)
    refine lv_iload hx hb dL_law__933 (lv_at hl 1 rfl) ?_
    refine lv_if_ne (tgt := 950) hx hb dL_law__935 (by decide) (fun c_21 => ?_) (fun c_21 => ?_)
    rotate_left
    · exact absurd c_21 (by decide)
    refine lv_goto (tgt := 1743) hx hb dL_law__950 (by decide) ?_
    exact lc_end l C0 (Nat.le_of_ble_eq_true rfl) (Nat.le_of_ble_eq_true rfl) hAe hS ls (lv_sub hl [2, 6] rfl)

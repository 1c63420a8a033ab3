theorem dL_law__670 : decode cL_law_ 670 = .ok (.aload_n 1, 1) := by decide +kernel
theorem dL_law__671 : decode cL_law_ 671 = .ok (.aload_n 0, 1) := by decide +kernel
theorem dL_law__672 : decode cL_law_ 672 = .ok (.iload 4, 2) := by decide +kernel
theorem dL_law__674 : decode cL_law_ 674 = .ok (.iconst 1, 1) := by decide +kernel
theorem dL_law__675 : decode cL_law_ 675 = .ok (.iadd, 1) := by decide +kernel
theorem dL_law__676 : decode cL_law_ 676 = .ok (.iaload, 1) := by decide +kernel
theorem dL_law__677 : decode cL_law_ 677 = .ok (.aload_n 0, 1) := by decide +kernel
theorem dL_law__678 : decode cL_law_ 678 = .ok (.iload 4, 2) := by decide +kernel
theorem dL_law__680 : decode cL_law_ 680 = .ok (.iconst 2, 1) := by decide +kernel
theorem dL_law__681 : decode cL_law_ 681 = .ok (.iadd, 1) := by decide +kernel
theorem dL_law__682 : decode cL_law_ 682 = .ok (.iaload, 1) := by decide +kernel
theorem dL_law__683 : decode cL_law_ 683 = .ok (.aload_n 0, 1) := by decide +kernel
theorem dL_law__684 : decode cL_law_ 684 = .ok (.iload 4, 2) := by decide +kernel
theorem dL_law__686 : decode cL_law_ 686 = .ok (.iconst 3, 1) := by decide +kernel
theorem dL_law__687 : decode cL_law_ 687 = .ok (.iadd, 1) := by decide +kernel
theorem dL_law__688 : decode cL_law_ 688 = .ok (.iaload, 1) := by decide +kernel
theorem dL_law__689 : decode cL_law_ 689 = .ok (.aload_n 0, 1) := by decide +kernel
theorem dL_law__690 : decode cL_law_ 690 = .ok (.iload 4, 2) := by decide +kernel
theorem dL_law__692 : decode cL_law_ 692 = .ok (.iconst 4, 1) := by decide +kernel
theorem dL_law__693 : decode cL_law_ 693 = .ok (.iadd, 1) := by decide +kernel
theorem dL_law__694 : decode cL_law_ 694 = .ok (.iaload, 1) := by decide +kernel
theorem dL_law__695 : decode cL_law_ 695 = .ok (.aload_n 0, 1) := by decide +kernel
theorem dL_law__696 : decode cL_law_ 696 = .ok (.iload 4, 2) := by decide +kernel
theorem dL_law__698 : decode cL_law_ 698 = .ok (.iconst 5, 1) := by decide +kernel
theorem dL_law__699 : decode cL_law_ 699 = .ok (.iadd, 1) := by decide +kernel
theorem dL_law__700 : decode cL_law_ 700 = .ok (.iaload, 1) := by decide +kernel
theorem dL_law__701 : decode cL_law_ 701 = .ok (.invokevirtual 116, 3) := by decide +kernel
theorem dL_law__704 : decode cL_law_ 704 = .ok (.aload_n 2, 1) := by decide +kernel
theorem dL_law__705 : decode cL_law_ 705 = .ok (.aload_n 0, 1) := by decide +kernel
theorem dL_law__706 : decode cL_law_ 706 = .ok (.iload 4, 2) := by decide +kernel
theorem dL_law__708 : decode cL_law_ 708 = .ok (.iconst 1, 1) := by decide +kernel
theorem dL_law__709 : decode cL_law_ 709 = .ok (.iadd, 1) := by decide +kernel
theorem dL_law__710 : decode cL_law_ 710 = .ok (.iaload, 1) := by decide +kernel
theorem dL_law__711 : decode cL_law_ 711 = .ok (.aload_n 0, 1) := by decide +kernel
theorem dL_law__712 : decode cL_law_ 712 = .ok (.iload 4, 2) := by decide +kernel
theorem dL_law__714 : decode cL_law_ 714 = .ok (.iconst 2, 1) := by decide +kernel
theorem dL_law__715 : decode cL_law_ 715 = .ok (.iadd, 1) := by decide +kernel
theorem dL_law__716 : decode cL_law_ 716 = .ok (.iaload, 1) := by decide +kernel
theorem dL_law__717 : decode cL_law_ 717 = .ok (.aload_n 0, 1) := by decide +kernel
theorem dL_law__718 : decode cL_law_ 718 = .ok (.iload 4, 2) := by decide +kernel
theorem dL_law__720 : decode cL_law_ 720 = .ok (.iconst 3, 1) := by decide +kernel
theorem dL_law__721 : decode cL_law_ 721 = .ok (.iadd, 1) := by decide +kernel
theorem dL_law__722 : decode cL_law_ 722 = .ok (.iaload, 1) := by decide +kernel
theorem dL_law__723 : decode cL_law_ 723 = .ok (.aload_n 0, 1) := by decide +kernel
theorem dL_law__724 : decode cL_law_ 724 = .ok (.iload 4, 2) := by decide +kernel
theorem dL_law__726 : decode cL_law_ 726 = .ok (.iconst 4, 1) := by decide +kernel
theorem dL_law__727 : decode cL_law_ 727 = .ok (.iadd, 1) := by decide +kernel
theorem dL_law__728 : decode cL_law_ 728 = .ok (.iaload, 1) := by decide +kernel
theorem dL_law__729 : decode cL_law_ 729 = .ok (.aload_n 0, 1) := by decide +kernel
theorem dL_law__730 : decode cL_law_ 730 = .ok (.iload 4, 2) := by decide +kernel
theorem dL_law__732 : decode cL_law_ 732 = .ok (.iconst 5, 1) := by decide +kernel
theorem dL_law__733 : decode cL_law_ 733 = .ok (.iadd, 1) := by decide +kernel
theorem dL_law__734 : decode cL_law_ 734 = .ok (.iaload, 1) := by decide +kernel
theorem dL_law__735 : decode cL_law_ 735 = .ok (.invokevirtual 120, 3) := by decide +kernel
theorem dL_law__738 : decode cL_law_ 738 = .ok (.if_icmp .eq 1005, 3) := by decide +kernel
theorem dL_law__811 : decode cL_law_ 811 = .ok (.aload_n 1, 1) := by decide +kernel
theorem dL_law__812 : decode cL_law_ 812 = .ok (.invokevirtual 124, 3) := by decide +kernel
theorem dL_law__815 : decode cL_law_ 815 = .ok (.aload_n 2, 1) := by decide +kernel
theorem dL_law__816 : decode cL_law_ 816 = .ok (.invokevirtual 127, 3) := by decide +kernel
theorem dL_law__819 : decode cL_law_ 819 = .ok (.if_icmp .eq 924, 3) := by decide +kernel
theorem dL_law__824 : decode cL_law_ 824 = .ok (.aload_n 1, 1) := by decide +kernel
theorem dL_law__825 : decode cL_law_ 825 = .ok (.aload_n 0, 1) := by decide +kernel
theorem dL_law__826 : decode cL_law_ 826 = .ok (.iload 4, 2) := by decide +kernel
theorem dL_law__828 : decode cL_law_ 828 = .ok (.iconst 1, 1) := by decide +kernel
theorem dL_law__829 : decode cL_law_ 829 = .ok (.iadd, 1) := by decide +kernel
theorem dL_law__830 : decode cL_law_ 830 = .ok (.iaload, 1) := by decide +kernel
theorem dL_law__831 : decode cL_law_ 831 = .ok (.aload_n 0, 1) := by decide +kernel
theorem dL_law__832 : decode cL_law_ 832 = .ok (.iload 4, 2) := by decide +kernel
theorem dL_law__834 : decode cL_law_ 834 = .ok (.iconst 2, 1) := by decide +kernel
theorem dL_law__835 : decode cL_law_ 835 = .ok (.iadd, 1) := by decide +kernel
theorem dL_law__836 : decode cL_law_ 836 = .ok (.iaload, 1) := by decide +kernel
theorem dL_law__837 : decode cL_law_ 837 = .ok (.aload_n 0, 1) := by decide +kernel
theorem dL_law__838 : decode cL_law_ 838 = .ok (.iload 4, 2) := by decide +kernel
theorem dL_law__840 : decode cL_law_ 840 = .ok (.iconst 3, 1) := by decide +kernel
theorem dL_law__841 : decode cL_law_ 841 = .ok (.iadd, 1) := by decide +kernel
theorem dL_law__842 : decode cL_law_ 842 = .ok (.iaload, 1) := by decide +kernel
theorem dL_law__843 : decode cL_law_ 843 = .ok (.invokevirtual 128, 3) := by decide +kernel
theorem dL_law__846 : decode cL_law_ 846 = .ok (.aload_n 2, 1) := by decide +kernel
theorem dL_law__847 : decode cL_law_ 847 = .ok (.aload_n 0, 1) := by decide +kernel
theorem dL_law__848 : decode cL_law_ 848 = .ok (.iload 4, 2) := by decide +kernel
theorem dL_law__850 : decode cL_law_ 850 = .ok (.iconst 1, 1) := by decide +kernel
theorem dL_law__851 : decode cL_law_ 851 = .ok (.iadd, 1) := by decide +kernel
theorem dL_law__852 : decode cL_law_ 852 = .ok (.iaload, 1) := by decide +kernel
theorem dL_law__853 : decode cL_law_ 853 = .ok (.aload_n 0, 1) := by decide +kernel
theorem dL_law__854 : decode cL_law_ 854 = .ok (.iload 4, 2) := by decide +kernel
theorem dL_law__856 : decode cL_law_ 856 = .ok (.iconst 2, 1) := by decide +kernel
theorem dL_law__857 : decode cL_law_ 857 = .ok (.iadd, 1) := by decide +kernel
theorem dL_law__858 : decode cL_law_ 858 = .ok (.iaload, 1) := by decide +kernel
theorem dL_law__859 : decode cL_law_ 859 = .ok (.aload_n 0, 1) := by decide +kernel
theorem dL_law__860 : decode cL_law_ 860 = .ok (.iload 4, 2) := by decide +kernel
theorem dL_law__862 : decode cL_law_ 862 = .ok (.iconst 3, 1) := by decide +kernel
theorem dL_law__863 : decode cL_law_ 863 = .ok (.iadd, 1) := by decide +kernel
theorem dL_law__864 : decode cL_law_ 864 = .ok (.iaload, 1) := by decide +kernel
theorem dL_law__865 : decode cL_law_ 865 = .ok (.invokevirtual 131, 3) := by decide +kernel
theorem dL_law__868 : decode cL_law_ 868 = .ok (.if_icmp .eq 875, 3) := by decide +kernel
set_option maxRecDepth 20000 in
theorem ggL_law__X11_cut : GoodIn wsL_law_ wsX11_cut := goodIn_r _ [636, 17, 637, 638, 639, 640, 641, 144, 145, 146, 15, 147, 148, 149, 150, 2, 151, 642, 643, 644, 645, 11, 12, 646, 647, 648, 649, 650, 651, 652, 653, 186, 187, 188, 189, 190, 191, 39, 192, 193, 194, 195, 196, 197, 198, 199, 200, 201, 202, 203, 38, 204, 205, 206, 207, 208, 209, 210, 211, 212, 213, 214, 215, 216, 217, 218, 219, 220, 221, 222, 223, 224, 225, 226, 227, 228, 229, 230, 231, 232, 233, 234, 235, 236, 237, 1112, 1113, 1114, 1115, 1116, 1117, 1118, 1119, 1120, 1121, 1122, 1123, 1124, 1125, 1241, 1242, 1243, 1244, 1245, 1246, 1247, 1248, 1249, 1196, 1197, 1198] (by decide +kernel) (by decide +kernel)
set_option maxRecDepth 20000 in
theorem gL_law__X11_cut : GoodIn wsL_law_ (wsV RL 128 RX11 yX11_cut wsX11_cut) := goodIn_app (goodIn_of _ (by decide +kernel)) ggL_law__X11_cut
set_option maxRecDepth 20000 in
theorem ggL_law__X11_fault : GoodIn wsL_law_ wsX11_fault := goodIn_r _ [628, 34, 1112, 1113, 1114, 1115, 1116, 1117, 1118, 1119, 1120, 1121, 1122, 1123, 1124, 1125] (by decide +kernel) (by decide +kernel)
set_option maxRecDepth 20000 in
theorem gL_law__X11_fault : GoodIn wsL_law_ (wsV RL 124 RX11 yX11_fault wsX11_fault) := goodIn_app (goodIn_of _ (by decide +kernel)) ggL_law__X11_fault
set_option maxRecDepth 20000 in
theorem ggL_law__X11_feed : GoodIn wsL_law_ wsX11_feed := goodIn_r _ [378, 24, 379, 380, 381, 382, 23, 383, 384, 55, 1112, 1113, 1114, 1115, 1116, 1117, 1118, 1119, 1120, 1121, 1122, 1123, 1124, 1125, 1199, 1200] (by decide +kernel) (by decide +kernel)
set_option maxRecDepth 20000 in
theorem gL_law__X11_feed : GoodIn wsL_law_ (wsV RL 116 RX11 yX11_feed wsX11_feed) := goodIn_app (goodIn_of _ (by decide +kernel)) ggL_law__X11_feed
set_option maxRecDepth 20000 in
theorem ggL_law__X12_cut : GoodIn wsL_law_ wsX12_cut := goodIn_r _ [657, 242, 658, 659, 106, 107, 108, 109, 110, 111, 113, 1126, 1127, 1128, 1129, 1130, 1131, 1132, 1133, 1134, 1135, 1136, 1137, 1138, 1139, 1140, 1141, 1142, 1143, 1144, 1145, 1146, 1147, 1148, 1149, 1150, 1151, 1152, 1153, 1154, 1155, 1156, 1157, 1158, 1159, 1160, 1161, 1162, 1163, 1164, 1165, 1166, 1167, 1168, 1169, 1170, 1171, 1172, 1173, 1174, 1175, 1176, 1177, 1178, 1179, 1180, 1181, 1182, 1183, 1184, 1185, 1186, 1187, 1188, 1189, 1190, 1191, 1192, 1193, 1194, 1195] (by decide +kernel) (by decide +kernel)
set_option maxRecDepth 20000 in
theorem gL_law__X12_cut : GoodIn wsL_law_ (wsV RL 131 RX12 yX12_cut wsX12_cut) := goodIn_app (goodIn_of _ (by decide +kernel)) ggL_law__X12_cut
set_option maxRecDepth 20000 in
theorem ggL_law__X12_fault : GoodIn wsL_law_ wsX12_fault := goodIn_r _ [632, 242, 82, 1126, 1127, 1128, 1129, 1130, 1131, 1132, 1133, 1134, 1135, 1136, 1137, 1138, 1139, 1140, 1141, 1142, 1143, 1144, 1145, 1146, 1147, 1148, 1149, 1150, 1151, 1152, 1153, 1154, 1155, 1156, 1157, 1158, 1159, 1160, 1161, 1162, 1163, 1164, 1165, 1166, 1167, 1168, 1169, 1170, 1171, 1172, 1173, 1174, 1175, 1176, 1177, 1178, 1179, 1180, 1181, 1182, 1183, 1184, 1185, 1186, 1187, 1188, 1189, 1190, 1191, 1192, 1193, 1194, 1195] (by decide +kernel) (by decide +kernel)
set_option maxRecDepth 20000 in
theorem gL_law__X12_fault : GoodIn wsL_law_ (wsV RL 127 RX12 yX12_fault wsX12_fault) := goodIn_app (goodIn_of _ (by decide +kernel)) ggL_law__X12_fault
set_option maxRecDepth 20000 in
theorem ggL_law__X12_feed : GoodIn wsL_law_ wsX12_feed := goodIn_r _ [388, 242, 389, 123, 1126, 1127, 1128, 1129, 1130, 1131, 1132, 1133, 1134, 1135, 1136, 1137, 1138, 1139, 1140, 1141, 1142, 1143, 1144, 1145, 1146, 1147, 1148, 1149, 1150, 1151, 1152, 1153, 1154, 1155, 1156, 1157, 1158, 1159, 1160, 1161, 1162, 1163, 1164, 1165, 1166, 1167, 1168, 1169, 1170, 1171, 1172, 1173, 1174, 1175, 1176, 1177, 1178, 1179, 1180, 1181, 1182, 1183, 1184, 1185, 1186, 1187, 1188, 1189, 1190, 1191, 1192, 1193, 1194, 1195] (by decide +kernel) (by decide +kernel)
set_option maxRecDepth 20000 in
theorem gL_law__X12_feed : GoodIn wsL_law_ (wsV RL 120 RX12 yX12_feed wsX12_feed) := goodIn_app (goodIn_of _ (by decide +kernel)) ggL_law__X12_feed
set_option maxHeartbeats 8000000 in
set_option maxRecDepth 100000 in
/-- the law's case 7: feed -/
theorem lc_feed {p : Program} {e : Env} {s : State} {m : MethodId} {below : List Frame} {meth : Method} {c : Code} (l : Launch) (hlt : l.stackTraces = false) {b : Nat} {xs : Nat → Int32} (C0 : lw_At p s m meth c b 6 xs) (e0 : Nat) (dC : Nat → ClassId) (dI : Nat → Nat → Nat) (h g : Nat → Nat) (ca cb : Nat → ClassId) (qo : Nat) (cO : ClassId) (fo : Nat → Int64) {A : Nat → Prop} (hAe : (fun q : Nat => s.heap.size ≤ q) = A) {H : Heap} {locs : List Loc} (hK : va_K (dC, dI) vwCl [(ca 0, .int), (cb 53, .int)] s) (hP : va_P (dC, dI) vwCl [(h 0, .inr (12, [.ref (h 1), .ref (h 2), .ref (h 3), .ref (h 4), .ref (h 5), .ref (h 6), .ref (h 8), .ref (h 12), .ref (h 11), .int 0, .int 0, .int (-1), .long 0, .long 0])), (h 6, .inr (10, [.ref (h 7), .int 0])), (h 7, .inl (ca 0, 500, .inl (fun _ => 0))), (g 0, .inr (13, [.ref (g 1), .int 0, .int 0, .int 0, .int 0, .int 0, .int 0, .int 0, .int 0, .int 0, .int (-1), .long 0, .long 0, .ref (g 14), .ref (g 15), .ref (g 16), .ref (g 17), .ref (g 18), .ref (g 19), .ref (g 20), .ref (g 21), .ref (g 22), .ref (g 23), .ref (g 24), .ref (g 25), .ref (g 26), .ref (g 27), .ref (g 28), .ref (g 29), .ref (g 30), .ref (g 31), .ref (g 32), .ref (g 33), .ref (g 34), .ref (g 35), .ref (g 36), .ref (g 37), .ref (g 38), .ref (g 39), .ref (g 40), .ref (g 41), .ref (g 42), .ref (g 43), .ref (g 44), .ref (g 45), .ref (g 46), .ref (g 47), .ref (g 48), .ref (g 49), .ref (g 50), .ref (g 51), .ref (g 52), .ref (g 53), .ref (g 54), .ref (g 55), .ref (g 56), .ref (g 57), .ref (g 58), .ref (g 59), .int 0, .int 0, .int 0, .int 0, .int 0, .int 0, .int 0, .int 0, .int 0, .int 0, .ref (g 70)])), (g 53, .inl (cb 53, 500, .inl (fun _ => 0)))] H) (hD : va_D A [(h 0, .inr (12, [.ref (h 1), .ref (h 2), .ref (h 3), .ref (h 4), .ref (h 5), .ref (h 6), .ref (h 8), .ref (h 12), .ref (h 11), .int 0, .int 0, .int (-1), .long 0, .long 0])), (h 6, .inr (10, [.ref (h 7), .int 0])), (h 7, .inl (ca 0, 500, .inl (fun _ => 0))), (g 0, .inr (13, [.ref (g 1), .int 0, .int 0, .int 0, .int 0, .int 0, .int 0, .int 0, .int 0, .int 0, .int (-1), .long 0, .long 0, .ref (g 14), .ref (g 15), .ref (g 16), .ref (g 17), .ref (g 18), .ref (g 19), .ref (g 20), .ref (g 21), .ref (g 22), .ref (g 23), .ref (g 24), .ref (g 25), .ref (g 26), .ref (g 27), .ref (g 28), .ref (g 29), .ref (g 30), .ref (g 31), .ref (g 32), .ref (g 33), .ref (g 34), .ref (g 35), .ref (g 36), .ref (g 37), .ref (g 38), .ref (g 39), .ref (g 40), .ref (g 41), .ref (g 42), .ref (g 43), .ref (g 44), .ref (g 45), .ref (g 46), .ref (g 47), .ref (g 48), .ref (g 49), .ref (g 50), .ref (g 51), .ref (g 52), .ref (g 53), .ref (g 54), .ref (g 55), .ref (g 56), .ref (g 57), .ref (g 58), .ref (g 59), .int 0, .int 0, .int 0, .int 0, .int 0, .int 0, .int 0, .int 0, .int 0, .int 0, .ref (g 70)])), (g 53, .inl (cb 53, 500, .inl (fun _ => 0)))]) (hS : va_S A s.heap H locs) (hZ : pz_s e0 A s s.heap) (hV : pz_v s) (hT : pz_t A s s.heap) (ls : Array Slot) (hl : lv_has ls 8 [(4, .int 0), (3, .ref qo), (2, .ref (g 0)), (1, .ref (h 0)), (0, .ref b)]) : W p l e room_1 s m #[Value.ref b] below meth c H locs 300 100000 (lw_Z below #[Value.ref b] s) (F0 m 670 ls []) := by
  obtain ⟨hx, hb, hr, hml, hown, hts, hX, hbl, hlocks, hgv⟩ := id C0
  have hown : s.vm.findClass RL = some m.cls := hown
  have hts := fun w h => hts w (wsL_law__in w h)
  have hA : ∀ q : Nat, s.heap.size ≤ q → A q := fun q h => by rw [← hAe]; exact h
  have hbA : ¬ A b := by rw [← hAe]; exact Nat.not_le.mpr hbl
  refine lv_aload_n hx hb dL_law__670 rfl (lv_at hl 3 rfl) ?_
  refine lv_aload_n hx hb dL_law__671 rfl (lv_at hl 4 rfl) ?_
  refine lv_iload hx hb dL_law__672 (lv_at hl 0 rfl) ?_
  refine lv_iconst (v := 1) hx hb dL_law__674 (by decide) ?_
  refine lv_iadd hx hb dL_law__675 ?_
  refine lv_topi (fun x_1 ex_1 => ?_)
  obtain rfl : x_1 = 1 := ex_1.trans (by decide)
  refine va_sld hx hb hX hbl hbA hS (pz_inK (by decide)) dL_law__676 ?_
  refine lv_aload_n hx hb dL_law__677 rfl (lv_at hl 4 rfl) ?_
  refine lv_iload hx hb dL_law__678 (lv_at hl 0 rfl) ?_
  refine lv_iconst (v := 2) hx hb dL_law__680 (by decide) ?_
  refine lv_iadd hx hb dL_law__681 ?_
  refine lv_topi (fun x_2 ex_2 => ?_)
  obtain rfl : x_2 = 2 := ex_2.trans (by decide)
  refine va_sld hx hb hX hbl hbA hS (pz_inK (by decide)) dL_law__682 ?_
  refine lv_aload_n hx hb dL_law__683 rfl (lv_at hl 4 rfl) ?_
  refine lv_iload hx hb dL_law__684 (lv_at hl 0 rfl) ?_
  refine lv_iconst (v := 3) hx hb dL_law__686 (by decide) ?_
  refine lv_iadd hx hb dL_law__687 ?_
  refine lv_topi (fun x_3 ex_3 => ?_)
  obtain rfl : x_3 = 3 := ex_3.trans (by decide)
  refine va_sld hx hb hX hbl hbA hS (pz_inK (by decide)) dL_law__688 ?_
  refine lv_aload_n hx hb dL_law__689 rfl (lv_at hl 4 rfl) ?_
  refine lv_iload hx hb dL_law__690 (lv_at hl 0 rfl) ?_
  refine lv_iconst (v := 4) hx hb dL_law__692 (by decide) ?_
  refine lv_iadd hx hb dL_law__693 ?_
  refine lv_topi (fun x_4 ex_4 => ?_)
  obtain rfl : x_4 = 4 := ex_4.trans (by decide)
  refine va_sld hx hb hX hbl hbA hS (pz_inK (by decide)) dL_law__694 ?_
  refine lv_aload_n hx hb dL_law__695 rfl (lv_at hl 4 rfl) ?_
  refine lv_iload hx hb dL_law__696 (lv_at hl 0 rfl) ?_
  refine lv_iconst (v := 5) hx hb dL_law__698 (by decide) ?_
  refine lv_iadd hx hb dL_law__699 ?_
  refine lv_topi (fun x_5 ex_5 => ?_)
  obtain rfl : x_5 = 5 := ex_5.trans (by decide)
  refine va_sld hx hb hX hbl hbA hS (pz_inK (by decide)) dL_law__700 ?_
  have hPc := hP.sub (ws' := [(h 0, .inr (12, [.ref (h 1), .ref (h 2), .ref (h 3), .ref (h 4), .ref (h 5), .ref (h 6), .ref (h 8), .ref (h 12), .ref (h 11), .int 0, .int 0, .int (-1), .long 0, .long 0])), (h 6, .inr (10, [.ref (h 7), .int 0])), (h 7, .inl (ca 0, 500, .inl (fun _ => 0)))]) [0, 1, 2] rfl
  have hDc := hD.sub (ws' := [(h 0, .inr (12, [.ref (h 1), .ref (h 2), .ref (h 3), .ref (h 4), .ref (h 5), .ref (h 6), .ref (h 8), .ref (h 12), .ref (h 11), .int 0, .int 0, .int (-1), .long 0, .long 0])), (h 6, .inr (10, [.ref (h 7), .int 0])), (h 7, .inl (ca 0, 500, .inl (fun _ => 0)))]) [0, 1, 2] (by decide) rfl
  have hKc := hK.sub (tys' := [(ca 0, .int)]) [0] rfl
  have hFc := va_free (wc := [(h 0, .inr (12, [.ref (h 1), .ref (h 2), .ref (h 3), .ref (h 4), .ref (h 5), .ref (h 6), .ref (h 8), .ref (h 12), .ref (h 11), .int 0, .int 0, .int (-1), .long 0, .long 0])), (h 6, .inr (10, [.ref (h 7), .int 0])), (h 7, .inl (ca 0, 500, .inl (fun _ => 0)))]) hD hS hA [0, 1, 2] rfl
  refine va_calli (va_runV (As := [.int (xs (Int32.toNatClampNeg 1)), .int (xs (Int32.toNatClampNeg 2)), .int (xs (Int32.toNatClampNeg 3)), .int (xs (Int32.toNatClampNeg 4)), .int (xs (Int32.toNatClampNeg 5))]) (rest := []) ⟨hx, hb, hml, hown, hts⟩ (c_X11_feed l hlt e0 dC dI H.size h ca (xs (Int32.toNatClampNeg 1)) (xs (Int32.toNatClampNeg 2)) (xs (Int32.toNatClampNeg 3)) (xs (Int32.toNatClampNeg 4)) (xs (Int32.toNatClampNeg 5))) (cwV 5 hts gL_law__X11_feed rfl rfl rfl (by decide +kernel) ⟨Nat.le_of_ble_eq_true rfl, Nat.le_of_ble_eq_true rfl⟩) (pz_preV [.int (xs (Int32.toNatClampNeg 1)), .int (xs (Int32.toNatClampNeg 2)), .int (xs (Int32.toNatClampNeg 3)), .int (xs (Int32.toNatClampNeg 4)), .int (xs (Int32.toNatClampNeg 5))] hPc hDc hKc hZ hV hT hS hFc (va_recv hKc hPc (ci := 12) (q0 := 0) rfl rfl)) rfl rfl hl.1 rfl (lv_room (Nat.le_of_ble_eq_true rfl)) dL_law__701 ⟨Nat.le_of_ble_eq_true rfl, Nat.le_of_ble_eq_true rfl⟩) hS (fun q _ h => hFc q h) hFc (fun r_6 u_7 t H locs ht hvm hw_8 hB_9 hz1 hk1 hS => ?_)
  obtain ⟨hP, hD⟩ := pz_rest (wr := [(g 0, .inr (13, [.ref (g 1), .int 0, .int 0, .int 0, .int 0, .int 0, .int 0, .int 0, .int 0, .int 0, .int (-1), .long 0, .long 0, .ref (g 14), .ref (g 15), .ref (g 16), .ref (g 17), .ref (g 18), .ref (g 19), .ref (g 20), .ref (g 21), .ref (g 22), .ref (g 23), .ref (g 24), .ref (g 25), .ref (g 26), .ref (g 27), .ref (g 28), .ref (g 29), .ref (g 30), .ref (g 31), .ref (g 32), .ref (g 33), .ref (g 34), .ref (g 35), .ref (g 36), .ref (g 37), .ref (g 38), .ref (g 39), .ref (g 40), .ref (g 41), .ref (g 42), .ref (g 43), .ref (g 44), .ref (g 45), .ref (g 46), .ref (g 47), .ref (g 48), .ref (g 49), .ref (g 50), .ref (g 51), .ref (g 52), .ref (g 53), .ref (g 54), .ref (g 55), .ref (g 56), .ref (g 57), .ref (g 58), .ref (g 59), .int 0, .int 0, .int 0, .int 0, .int 0, .int 0, .int 0, .int 0, .int 0, .int 0, .ref (g 70)])), (g 53, .inl (cb 53, 500, .inl (fun _ => 0)))]) hP hD [0, 1, 2] [3, 4] rfl rfl (by decide) (by decide) hk1 hFc
  subst hw_8
  refine lv_aload_n hx hb dL_law__704 rfl (lv_at hl 2 rfl) ?_
  refine lv_aload_n hx hb dL_law__705 rfl (lv_at hl 4 rfl) ?_
  refine lv_iload hx hb dL_law__706 (lv_at hl 0 rfl) ?_
  refine lv_iconst (v := 1) hx hb dL_law__708 (by decide) ?_
  refine lv_iadd hx hb dL_law__709 ?_
  refine lv_topi (fun x_10 ex_10 => ?_)
  obtain rfl : x_10 = 1 := ex_10.trans (by decide)
  refine va_sld hx hb hX hbl hbA hS (pz_inK (by decide)) dL_law__710 ?_
  refine lv_aload_n hx hb dL_law__711 rfl (lv_at hl 4 rfl) ?_
  refine lv_iload hx hb dL_law__712 (lv_at hl 0 rfl) ?_
  refine lv_iconst (v := 2) hx hb dL_law__714 (by decide) ?_
  refine lv_iadd hx hb dL_law__715 ?_
  refine lv_topi (fun x_11 ex_11 => ?_)
  obtain rfl : x_11 = 2 := ex_11.trans (by decide)
  refine va_sld hx hb hX hbl hbA hS (pz_inK (by decide)) dL_law__716 ?_
  refine lv_aload_n hx hb dL_law__717 rfl (lv_at hl 4 rfl) ?_
  refine lv_iload hx hb dL_law__718 (lv_at hl 0 rfl) ?_
  refine lv_iconst (v := 3) hx hb dL_law__720 (by decide) ?_
  refine lv_iadd hx hb dL_law__721 ?_
  refine lv_topi (fun x_12 ex_12 => ?_)
  obtain rfl : x_12 = 3 := ex_12.trans (by decide)
  refine va_sld hx hb hX hbl hbA hS (pz_inK (by decide)) dL_law__722 ?_
  refine lv_aload_n hx hb dL_law__723 rfl (lv_at hl 4 rfl) ?_
  refine lv_iload hx hb dL_law__724 (lv_at hl 0 rfl) ?_
  refine lv_iconst (v := 4) hx hb dL_law__726 (by decide) ?_
  refine lv_iadd hx hb dL_law__727 ?_
  refine lv_topi (fun x_13 ex_13 => ?_)
  obtain rfl : x_13 = 4 := ex_13.trans (by decide)
  refine va_sld hx hb hX hbl hbA hS (pz_inK (by decide)) dL_law__728 ?_
  refine lv_aload_n hx hb dL_law__729 rfl (lv_at hl 4 rfl) ?_
  refine lv_iload hx hb dL_law__730 (lv_at hl 0 rfl) ?_
  refine lv_iconst (v := 5) hx hb dL_law__732 (by decide) ?_
  refine lv_iadd hx hb dL_law__733 ?_
  refine lv_topi (fun x_14 ex_14 => ?_)
  obtain rfl : x_14 = 5 := ex_14.trans (by decide)
  refine va_sld hx hb hX hbl hbA hS (pz_inK (by decide)) dL_law__734 ?_
  have hPc := hP.sub (ws' := [(g 0, .inr (13, [.ref (g 1), .int 0, .int 0, .int 0, .int 0, .int 0, .int 0, .int 0, .int 0, .int 0, .int (-1), .long 0, .long 0, .ref (g 14), .ref (g 15), .ref (g 16), .ref (g 17), .ref (g 18), .ref (g 19), .ref (g 20), .ref (g 21), .ref (g 22), .ref (g 23), .ref (g 24), .ref (g 25), .ref (g 26), .ref (g 27), .ref (g 28), .ref (g 29), .ref (g 30), .ref (g 31), .ref (g 32), .ref (g 33), .ref (g 34), .ref (g 35), .ref (g 36), .ref (g 37), .ref (g 38), .ref (g 39), .ref (g 40), .ref (g 41), .ref (g 42), .ref (g 43), .ref (g 44), .ref (g 45), .ref (g 46), .ref (g 47), .ref (g 48), .ref (g 49), .ref (g 50), .ref (g 51), .ref (g 52), .ref (g 53), .ref (g 54), .ref (g 55), .ref (g 56), .ref (g 57), .ref (g 58), .ref (g 59), .int 0, .int 0, .int 0, .int 0, .int 0, .int 0, .int 0, .int 0, .int 0, .int 0, .ref (g 70)])), (g 53, .inl (cb 53, 500, .inl (fun _ => 0)))]) [0, 1] rfl
  have hDc := hD.sub (ws' := [(g 0, .inr (13, [.ref (g 1), .int 0, .int 0, .int 0, .int 0, .int 0, .int 0, .int 0, .int 0, .int 0, .int (-1), .long 0, .long 0, .ref (g 14), .ref (g 15), .ref (g 16), .ref (g 17), .ref (g 18), .ref (g 19), .ref (g 20), .ref (g 21), .ref (g 22), .ref (g 23), .ref (g 24), .ref (g 25), .ref (g 26), .ref (g 27), .ref (g 28), .ref (g 29), .ref (g 30), .ref (g 31), .ref (g 32), .ref (g 33), .ref (g 34), .ref (g 35), .ref (g 36), .ref (g 37), .ref (g 38), .ref (g 39), .ref (g 40), .ref (g 41), .ref (g 42), .ref (g 43), .ref (g 44), .ref (g 45), .ref (g 46), .ref (g 47), .ref (g 48), .ref (g 49), .ref (g 50), .ref (g 51), .ref (g 52), .ref (g 53), .ref (g 54), .ref (g 55), .ref (g 56), .ref (g 57), .ref (g 58), .ref (g 59), .int 0, .int 0, .int 0, .int 0, .int 0, .int 0, .int 0, .int 0, .int 0, .int 0, .ref (g 70)])), (g 53, .inl (cb 53, 500, .inl (fun _ => 0)))]) [0, 1] (by decide) rfl
  have hKc := hK.sub (tys' := [(cb 53, .int)]) [1] rfl
  have hFc := va_free (wc := [(g 0, .inr (13, [.ref (g 1), .int 0, .int 0, .int 0, .int 0, .int 0, .int 0, .int 0, .int 0, .int 0, .int (-1), .long 0, .long 0, .ref (g 14), .ref (g 15), .ref (g 16), .ref (g 17), .ref (g 18), .ref (g 19), .ref (g 20), .ref (g 21), .ref (g 22), .ref (g 23), .ref (g 24), .ref (g 25), .ref (g 26), .ref (g 27), .ref (g 28), .ref (g 29), .ref (g 30), .ref (g 31), .ref (g 32), .ref (g 33), .ref (g 34), .ref (g 35), .ref (g 36), .ref (g 37), .ref (g 38), .ref (g 39), .ref (g 40), .ref (g 41), .ref (g 42), .ref (g 43), .ref (g 44), .ref (g 45), .ref (g 46), .ref (g 47), .ref (g 48), .ref (g 49), .ref (g 50), .ref (g 51), .ref (g 52), .ref (g 53), .ref (g 54), .ref (g 55), .ref (g 56), .ref (g 57), .ref (g 58), .ref (g 59), .int 0, .int 0, .int 0, .int 0, .int 0, .int 0, .int 0, .int 0, .int 0, .int 0, .ref (g 70)])), (g 53, .inl (cb 53, 500, .inl (fun _ => 0)))]) hD hS hA [0, 1] rfl
  refine va_calli (va_runV (As := [.int (xs (Int32.toNatClampNeg 1)), .int (xs (Int32.toNatClampNeg 2)), .int (xs (Int32.toNatClampNeg 3)), .int (xs (Int32.toNatClampNeg 4)), .int (xs (Int32.toNatClampNeg 5))]) (rest := [.int 20]) ⟨hx, hb, hml, hown, hts⟩ (c_X12_feed l hlt e0 dC dI H.size g cb (xs (Int32.toNatClampNeg 1)) (xs (Int32.toNatClampNeg 2)) (xs (Int32.toNatClampNeg 3)) (xs (Int32.toNatClampNeg 4)) (xs (Int32.toNatClampNeg 5))) (cwV 5 hts gL_law__X12_feed rfl rfl rfl (by decide +kernel) ⟨Nat.le_of_ble_eq_true rfl, Nat.le_of_ble_eq_true rfl⟩) (pz_preV [.int (xs (Int32.toNatClampNeg 1)), .int (xs (Int32.toNatClampNeg 2)), .int (xs (Int32.toNatClampNeg 3)), .int (xs (Int32.toNatClampNeg 4)), .int (xs (Int32.toNatClampNeg 5))] hPc hDc hKc hZ hV hT hS hFc (va_recv hKc hPc (ci := 13) (q0 := 0) rfl rfl)) rfl rfl hl.1 rfl (lv_room (Nat.le_of_ble_eq_true rfl)) dL_law__735 ⟨Nat.le_of_ble_eq_true rfl, Nat.le_of_ble_eq_true rfl⟩) hS (fun q _ h => hFc q h) hFc (fun r_15 u_16 t H locs ht hvm hw_17 hB_18 hz1 hk1 hS => ?_)
  obtain ⟨hP, hD⟩ := pz_rest (wr := []) hP hD [0, 1] [] rfl rfl (by decide) (by decide) hk1 hFc
  subst hw_17
  refine lv_icmp_eq (tgt := 1743) hx hb dL_law__738 (by decide) (fun c_19 => ?_) (fun c_19 => ?_)
  rotate_left
  · exact absurd c_19 (by decide)
  exact lc_end l C0 (Nat.le_of_ble_eq_true rfl) (Nat.le_of_ble_eq_true rfl) hAe hS ls (lv_sub hl [0, 4] rfl)
set_option maxHeartbeats 8000000 in
set_option maxRecDepth 100000 in
/-- the law's case 9: fault -/
theorem lc_fault {p : Program} {e : Env} {s : State} {m : MethodId} {below : List Frame} {meth : Method} {c : Code} (l : Launch) (hlt : l.stackTraces = false) {b : Nat} {xs : Nat → Int32} (C0 : lw_At p s m meth c b 6 xs) (e0 : Nat) (dC : Nat → ClassId) (dI : Nat → Nat → Nat) (h g : Nat → Nat) (ca cb : Nat → ClassId) (qo : Nat) (cO : ClassId) (fo : Nat → Int64) {A : Nat → Prop} (hAe : (fun q : Nat => s.heap.size ≤ q) = A) {H : Heap} {locs : List Loc} (hK : va_K (dC, dI) vwCl [] s) (hP : va_P (dC, dI) vwCl [(h 0, .inr (12, [.ref (h 1), .ref (h 2), .ref (h 3), .ref (h 4), .ref (h 5), .ref (h 6), .ref (h 8), .ref (h 12), .ref (h 11), .int 0, .int 0, .int (-1), .long 0, .long 0])), (g 0, .inr (13, [.ref (g 1), .int 0, .int 0, .int 0, .int 0, .int 0, .int 0, .int 0, .int 0, .int 0, .int (-1), .long 0, .long 0, .ref (g 14), .ref (g 15), .ref (g 16), .ref (g 17), .ref (g 18), .ref (g 19), .ref (g 20), .ref (g 21), .ref (g 22), .ref (g 23), .ref (g 24), .ref (g 25), .ref (g 26), .ref (g 27), .ref (g 28), .ref (g 29), .ref (g 30), .ref (g 31), .ref (g 32), .ref (g 33), .ref (g 34), .ref (g 35), .ref (g 36), .ref (g 37), .ref (g 38), .ref (g 39), .ref (g 40), .ref (g 41), .ref (g 42), .ref (g 43), .ref (g 44), .ref (g 45), .ref (g 46), .ref (g 47), .ref (g 48), .ref (g 49), .ref (g 50), .ref (g 51), .ref (g 52), .ref (g 53), .ref (g 54), .ref (g 55), .ref (g 56), .ref (g 57), .ref (g 58), .ref (g 59), .int 0, .int 0, .int 0, .int 0, .int 0, .int 0, .int 0, .int 0, .int 0, .int 0, .ref (g 70)]))] H) (hD : va_D A [(h 0, .inr (12, [.ref (h 1), .ref (h 2), .ref (h 3), .ref (h 4), .ref (h 5), .ref (h 6), .ref (h 8), .ref (h 12), .ref (h 11), .int 0, .int 0, .int (-1), .long 0, .long 0])), (g 0, .inr (13, [.ref (g 1), .int 0, .int 0, .int 0, .int 0, .int 0, .int 0, .int 0, .int 0, .int 0, .int (-1), .long 0, .long 0, .ref (g 14), .ref (g 15), .ref (g 16), .ref (g 17), .ref (g 18), .ref (g 19), .ref (g 20), .ref (g 21), .ref (g 22), .ref (g 23), .ref (g 24), .ref (g 25), .ref (g 26), .ref (g 27), .ref (g 28), .ref (g 29), .ref (g 30), .ref (g 31), .ref (g 32), .ref (g 33), .ref (g 34), .ref (g 35), .ref (g 36), .ref (g 37), .ref (g 38), .ref (g 39), .ref (g 40), .ref (g 41), .ref (g 42), .ref (g 43), .ref (g 44), .ref (g 45), .ref (g 46), .ref (g 47), .ref (g 48), .ref (g 49), .ref (g 50), .ref (g 51), .ref (g 52), .ref (g 53), .ref (g 54), .ref (g 55), .ref (g 56), .ref (g 57), .ref (g 58), .ref (g 59), .int 0, .int 0, .int 0, .int 0, .int 0, .int 0, .int 0, .int 0, .int 0, .int 0, .ref (g 70)]))]) (hS : va_S A s.heap H locs) (hZ : pz_s e0 A s s.heap) (hV : pz_v s) (hT : pz_t A s s.heap) (ls : Array Slot) (hl : lv_has ls 8 [(4, .int 0), (3, .ref qo), (2, .ref (g 0)), (1, .ref (h 0)), (0, .ref b)]) : W p l e room_1 s m #[Value.ref b] below meth c H locs 300 100000 (lw_Z below #[Value.ref b] s) (F0 m 811 ls []) := by
  obtain ⟨hx, hb, hr, hml, hown, hts, hX, hbl, hlocks, hgv⟩ := id C0
  have hown : s.vm.findClass RL = some m.cls := hown
  have hts := fun w h => hts w (wsL_law__in w h)
  have hA : ∀ q : Nat, s.heap.size ≤ q → A q := fun q h => by rw [← hAe]; exact h
  have hbA : ¬ A b := by rw [← hAe]; exact Nat.not_le.mpr hbl
  refine lv_aload_n hx hb dL_law__811 rfl (lv_at hl 3 rfl) ?_
  have hPc := hP.sub (ws' := [(h 0, .inr (12, [.ref (h 1), .ref (h 2), .ref (h 3), .ref (h 4), .ref (h 5), .ref (h 6), .ref (h 8), .ref (h 12), .ref (h 11), .int 0, .int 0, .int (-1), .long 0, .long 0]))]) [0] rfl
  have hDc := hD.sub (ws' := [(h 0, .inr (12, [.ref (h 1), .ref (h 2), .ref (h 3), .ref (h 4), .ref (h 5), .ref (h 6), .ref (h 8), .ref (h 12), .ref (h 11), .int 0, .int 0, .int (-1), .long 0, .long 0]))]) [0] (by decide) rfl
  have hKc := hK.sub (tys' := []) [] rfl
  have hFc := va_free (wc := [(h 0, .inr (12, [.ref (h 1), .ref (h 2), .ref (h 3), .ref (h 4), .ref (h 5), .ref (h 6), .ref (h 8), .ref (h 12), .ref (h 11), .int 0, .int 0, .int (-1), .long 0, .long 0]))]) hD hS hA [0] rfl
  refine va_calli (va_runV (As := []) (rest := []) ⟨hx, hb, hml, hown, hts⟩ (c_X11_fault l hlt e0 dC dI H.size h) (cwV 0 hts gL_law__X11_fault rfl rfl rfl (by decide +kernel) ⟨Nat.le_of_ble_eq_true rfl, Nat.le_of_ble_eq_true rfl⟩) (pz_preV [] hPc hDc hKc hZ hV hT hS hFc (va_recv hKc hPc (ci := 12) (q0 := 0) rfl rfl)) rfl rfl hl.1 rfl (lv_room (Nat.le_of_ble_eq_true rfl)) dL_law__812 ⟨Nat.le_of_ble_eq_true rfl, Nat.le_of_ble_eq_true rfl⟩) hS (fun q _ h => hFc q h) hFc (fun r_1 u_2 t H locs ht hvm hw_3 hB_4 hz1 hk1 hS => ?_)
  obtain ⟨hP, hD⟩ := pz_rest (wr := [(g 0, .inr (13, [.ref (g 1), .int 0, .int 0, .int 0, .int 0, .int 0, .int 0, .int 0, .int 0, .int 0, .int (-1), .long 0, .long 0, .ref (g 14), .ref (g 15), .ref (g 16), .ref (g 17), .ref (g 18), .ref (g 19), .ref (g 20), .ref (g 21), .ref (g 22), .ref (g 23), .ref (g 24), .ref (g 25), .ref (g 26), .ref (g 27), .ref (g 28), .ref (g 29), .ref (g 30), .ref (g 31), .ref (g 32), .ref (g 33), .ref (g 34), .ref (g 35), .ref (g 36), .ref (g 37), .ref (g 38), .ref (g 39), .ref (g 40), .ref (g 41), .ref (g 42), .ref (g 43), .ref (g 44), .ref (g 45), .ref (g 46), .ref (g 47), .ref (g 48), .ref (g 49), .ref (g 50), .ref (g 51), .ref (g 52), .ref (g 53), .ref (g 54), .ref (g 55), .ref (g 56), .ref (g 57), .ref (g 58), .ref (g 59), .int 0, .int 0, .int 0, .int 0, .int 0, .int 0, .int 0, .int 0, .int 0, .int 0, .ref (g 70)]))]) hP hD [0] [1] rfl rfl (by decide) (by decide) hk1 hFc
  subst hw_3
  refine lv_aload_n hx hb dL_law__815 rfl (lv_at hl 2 rfl) ?_
  have hPc := hP.sub (ws' := [(g 0, .inr (13, [.ref (g 1), .int 0, .int 0, .int 0, .int 0, .int 0, .int 0, .int 0, .int 0, .int 0, .int (-1), .long 0, .long 0, .ref (g 14), .ref (g 15), .ref (g 16), .ref (g 17), .ref (g 18), .ref (g 19), .ref (g 20), .ref (g 21), .ref (g 22), .ref (g 23), .ref (g 24), .ref (g 25), .ref (g 26), .ref (g 27), .ref (g 28), .ref (g 29), .ref (g 30), .ref (g 31), .ref (g 32), .ref (g 33), .ref (g 34), .ref (g 35), .ref (g 36), .ref (g 37), .ref (g 38), .ref (g 39), .ref (g 40), .ref (g 41), .ref (g 42), .ref (g 43), .ref (g 44), .ref (g 45), .ref (g 46), .ref (g 47), .ref (g 48), .ref (g 49), .ref (g 50), .ref (g 51), .ref (g 52), .ref (g 53), .ref (g 54), .ref (g 55), .ref (g 56), .ref (g 57), .ref (g 58), .ref (g 59), .int 0, .int 0, .int 0, .int 0, .int 0, .int 0, .int 0, .int 0, .int 0, .int 0, .ref (g 70)]))]) [0] rfl
  have hDc := hD.sub (ws' := [(g 0, .inr (13, [.ref (g 1), .int 0, .int 0, .int 0, .int 0, .int 0, .int 0, .int 0, .int 0, .int 0, .int (-1), .long 0, .long 0, .ref (g 14), .ref (g 15), .ref (g 16), .ref (g 17), .ref (g 18), .ref (g 19), .ref (g 20), .ref (g 21), .ref (g 22), .ref (g 23), .ref (g 24), .ref (g 25), .ref (g 26), .ref (g 27), .ref (g 28), .ref (g 29), .ref (g 30), .ref (g 31), .ref (g 32), .ref (g 33), .ref (g 34), .ref (g 35), .ref (g 36), .ref (g 37), .ref (g 38), .ref (g 39), .ref (g 40), .ref (g 41), .ref (g 42), .ref (g 43), .ref (g 44), .ref (g 45), .ref (g 46), .ref (g 47), .ref (g 48), .ref (g 49), .ref (g 50), .ref (g 51), .ref (g 52), .ref (g 53), .ref (g 54), .ref (g 55), .ref (g 56), .ref (g 57), .ref (g 58), .ref (g 59), .int 0, .int 0, .int 0, .int 0, .int 0, .int 0, .int 0, .int 0, .int 0, .int 0, .ref (g 70)]))]) [0] (by decide) rfl
  have hKc := hK.sub (tys' := []) [] rfl
  have hFc := va_free (wc := [(g 0, .inr (13, [.ref (g 1), .int 0, .int 0, .int 0, .int 0, .int 0, .int 0, .int 0, .int 0, .int 0, .int (-1), .long 0, .long 0, .ref (g 14), .ref (g 15), .ref (g 16), .ref (g 17), .ref (g 18), .ref (g 19), .ref (g 20), .ref (g 21), .ref (g 22), .ref (g 23), .ref (g 24), .ref (g 25), .ref (g 26), .ref (g 27), .ref (g 28), .ref (g 29), .ref (g 30), .ref (g 31), .ref (g 32), .ref (g 33), .ref (g 34), .ref (g 35), .ref (g 36), .ref (g 37), .ref (g 38), .ref (g 39), .ref (g 40), .ref (g 41), .ref (g 42), .ref (g 43), .ref (g 44), .ref (g 45), .ref (g 46), .ref (g 47), .ref (g 48), .ref (g 49), .ref (g 50), .ref (g 51), .ref (g 52), .ref (g 53), .ref (g 54), .ref (g 55), .ref (g 56), .ref (g 57), .ref (g 58), .ref (g 59), .int 0, .int 0, .int 0, .int 0, .int 0, .int 0, .int 0, .int 0, .int 0, .int 0, .ref (g 70)]))]) hD hS hA [0] rfl
  refine va_calli (va_runV (As := []) (rest := [.int (-1)]) ⟨hx, hb, hml, hown, hts⟩ (c_X12_fault l hlt e0 dC dI H.size g) (cwV 0 hts gL_law__X12_fault rfl rfl rfl (by decide +kernel) ⟨Nat.le_of_ble_eq_true rfl, Nat.le_of_ble_eq_true rfl⟩) (pz_preV [] hPc hDc hKc hZ hV hT hS hFc (va_recv hKc hPc (ci := 13) (q0 := 0) rfl rfl)) rfl rfl hl.1 rfl (lv_room (Nat.le_of_ble_eq_true rfl)) dL_law__816 ⟨Nat.le_of_ble_eq_true rfl, Nat.le_of_ble_eq_true rfl⟩) hS (fun q _ h => hFc q h) hFc (fun r_5 u_6 t H locs ht hvm hw_7 hB_8 hz1 hk1 hS => ?_)
  obtain ⟨hP1, hD1⟩ := hB_8
  rw [ht] at hP1
  obtain ⟨hP, hD⟩ := va_join (wr := []) (w1 := [(g 0, .inr (13, u_6))]) hP hD [0] [] rfl rfl (by decide) (by decide) hk1 hFc hP1 hD1
  have hP : va_P (dC, dI) vwCl [(g 0, .inr (13, u_6))] H := hP
  have hD : va_D A [(g 0, .inr (13, u_6))] := hD
  subst hw_7
  refine lv_icmp_eq (tgt := 1743) hx hb dL_law__819 (by decide) (fun c_9 => ?_) (fun c_9 => ?_)
  rotate_left
  · exact absurd c_9 (by decide)
  exact lc_end l C0 (Nat.le_of_ble_eq_true rfl) (Nat.le_of_ble_eq_true rfl) hAe hS ls (lv_sub hl [0, 4] rfl)
set_option maxHeartbeats 8000000 in
set_option maxRecDepth 100000 in
/-- the law's case 10: cut -/
theorem lc_cut {p : Program} {e : Env} {s : State} {m : MethodId} {below : List Frame} {meth : Method} {c : Code} (l : Launch) (hlt : l.stackTraces = false) {b : Nat} {xs : Nat → Int32} (C0 : lw_At p s m meth c b 6 xs) (e0 : Nat) (dC : Nat → ClassId) (dI : Nat → Nat → Nat) (h g : Nat → Nat) (ca cb : Nat → ClassId) (qo : Nat) (cO : ClassId) (fo : Nat → Int64) {A : Nat → Prop} (hAe : (fun q : Nat => s.heap.size ≤ q) = A) {H : Heap} {locs : List Loc} (hK : va_K (dC, dI) vwCl [(cb 36, .int), (cb 37, .int), (cb 38, .int), (cb 39, .int), (cb 40, .int), (cb 41, .int), (cb 43, .int)] s) (hP : va_P (dC, dI) vwCl [(h 0, .inr (12, [.ref (h 1), .ref (h 2), .ref (h 3), .ref (h 4), .ref (h 5), .ref (h 6), .ref (h 8), .ref (h 12), .ref (h 11), .int 0, .int 0, .int (-1), .long 0, .long 0])), (h 2, .inr (0, [.int 0, .ref e0, .int 0])), (g 0, .inr (13, [.ref (g 1), .int 0, .int 0, .int 0, .int 0, .int 0, .int 0, .int 0, .int 0, .int 0, .int (-1), .long 0, .long 0, .ref (g 14), .ref (g 15), .ref (g 16), .ref (g 17), .ref (g 18), .ref (g 19), .ref (g 20), .ref (g 21), .ref (g 22), .ref (g 23), .ref (g 24), .ref (g 25), .ref (g 26), .ref (g 27), .ref (g 28), .ref (g 29), .ref (g 30), .ref (g 31), .ref (g 32), .ref (g 33), .ref (g 34), .ref (g 35), .ref (g 36), .ref (g 37), .ref (g 38), .ref (g 39), .ref (g 40), .ref (g 41), .ref (g 42), .ref (g 43), .ref (g 44), .ref (g 45), .ref (g 46), .ref (g 47), .ref (g 48), .ref (g 49), .ref (g 50), .ref (g 51), .ref (g 52), .ref (g 53), .ref (g 54), .ref (g 55), .ref (g 56), .ref (g 57), .ref (g 58), .ref (g 59), .int 0, .int 0, .int 0, .int 0, .int 0, .int 0, .int 0, .int 0, .int 0, .int 0, .ref (g 70)])), (g 36, .inl (cb 36, 400, .inl (fun _ => 0))), (g 37, .inl (cb 37, 400, .inl (fun _ => 0))), (g 38, .inl (cb 38, 400, .inl (fun _ => 0))), (g 39, .inl (cb 39, 400, .inl (fun _ => 0))), (g 40, .inl (cb 40, 400, .inl (fun _ => 0))), (g 41, .inl (cb 41, 400, .inl (fun _ => 0))), (g 43, .inl (cb 43, 400, .inl (fun _ => 0)))] H) (hD : va_D A [(h 0, .inr (12, [.ref (h 1), .ref (h 2), .ref (h 3), .ref (h 4), .ref (h 5), .ref (h 6), .ref (h 8), .ref (h 12), .ref (h 11), .int 0, .int 0, .int (-1), .long 0, .long 0])), (h 2, .inr (0, [.int 0, .ref e0, .int 0])), (g 0, .inr (13, [.ref (g 1), .int 0, .int 0, .int 0, .int 0, .int 0, .int 0, .int 0, .int 0, .int 0, .int (-1), .long 0, .long 0, .ref (g 14), .ref (g 15), .ref (g 16), .ref (g 17), .ref (g 18), .ref (g 19), .ref (g 20), .ref (g 21), .ref (g 22), .ref (g 23), .ref (g 24), .ref (g 25), .ref (g 26), .ref (g 27), .ref (g 28), .ref (g 29), .ref (g 30), .ref (g 31), .ref (g 32), .ref (g 33), .ref (g 34), .ref (g 35), .ref (g 36), .ref (g 37), .ref (g 38), .ref (g 39), .ref (g 40), .ref (g 41), .ref (g 42), .ref (g 43), .ref (g 44), .ref (g 45), .ref (g 46), .ref (g 47), .ref (g 48), .ref (g 49), .ref (g 50), .ref (g 51), .ref (g 52), .ref (g 53), .ref (g 54), .ref (g 55), .ref (g 56), .ref (g 57), .ref (g 58), .ref (g 59), .int 0, .int 0, .int 0, .int 0, .int 0, .int 0, .int 0, .int 0, .int 0, .int 0, .ref (g 70)])), (g 36, .inl (cb 36, 400, .inl (fun _ => 0))), (g 37, .inl (cb 37, 400, .inl (fun _ => 0))), (g 38, .inl (cb 38, 400, .inl (fun _ => 0))), (g 39, .inl (cb 39, 400, .inl (fun _ => 0))), (g 40, .inl (cb 40, 400, .inl (fun _ => 0))), (g 41, .inl (cb 41, 400, .inl (fun _ => 0))), (g 43, .inl (cb 43, 400, .inl (fun _ => 0)))]) (hS : va_S A s.heap H locs) (hZ : pz_s e0 A s s.heap) (hV : pz_v s) (hT : pz_t A s s.heap) (ls : Array Slot) (hl : lv_has ls 8 [(4, .int 0), (3, .ref qo), (2, .ref (g 0)), (1, .ref (h 0)), (0, .ref b)]) : W p l e room_1 s m #[Value.ref b] below meth c H locs 300 100000 (lw_Z below #[Value.ref b] s) (F0 m 824 ls []) := by
  obtain ⟨hx, hb, hr, hml, hown, hts, hX, hbl, hlocks, hgv⟩ := id C0
  have hown : s.vm.findClass RL = some m.cls := hown
  have hts := fun w h => hts w (wsL_law__in w h)
  have hA : ∀ q : Nat, s.heap.size ≤ q → A q := fun q h => by rw [← hAe]; exact h
  have hbA : ¬ A b := by rw [← hAe]; exact Nat.not_le.mpr hbl
  refine lv_aload_n hx hb dL_law__824 rfl (lv_at hl 3 rfl) ?_
  refine lv_aload_n hx hb dL_law__825 rfl (lv_at hl 4 rfl) ?_
  refine lv_iload hx hb dL_law__826 (lv_at hl 0 rfl) ?_
  refine lv_iconst (v := 1) hx hb dL_law__828 (by decide) ?_
  refine lv_iadd hx hb dL_law__829 ?_
  refine lv_topi (fun x_1 ex_1 => ?_)
  obtain rfl : x_1 = 1 := ex_1.trans (by decide)
  refine va_sld hx hb hX hbl hbA hS (pz_inK (by decide)) dL_law__830 ?_
  refine lv_aload_n hx hb dL_law__831 rfl (lv_at hl 4 rfl) ?_
  refine lv_iload hx hb dL_law__832 (lv_at hl 0 rfl) ?_
  refine lv_iconst (v := 2) hx hb dL_law__834 (by decide) ?_
  refine lv_iadd hx hb dL_law__835 ?_
  refine lv_topi (fun x_2 ex_2 => ?_)
  obtain rfl : x_2 = 2 := ex_2.trans (by decide)
  refine va_sld hx hb hX hbl hbA hS (pz_inK (by decide)) dL_law__836 ?_
  refine lv_aload_n hx hb dL_law__837 rfl (lv_at hl 4 rfl) ?_
  refine lv_iload hx hb dL_law__838 (lv_at hl 0 rfl) ?_
  refine lv_iconst (v := 3) hx hb dL_law__840 (by decide) ?_
  refine lv_iadd hx hb dL_law__841 ?_
  refine lv_topi (fun x_3 ex_3 => ?_)
  obtain rfl : x_3 = 3 := ex_3.trans (by decide)
  refine va_sld hx hb hX hbl hbA hS (pz_inK (by decide)) dL_law__842 ?_
  have hPc := hP.sub (ws' := [(h 0, .inr (12, [.ref (h 1), .ref (h 2), .ref (h 3), .ref (h 4), .ref (h 5), .ref (h 6), .ref (h 8), .ref (h 12), .ref (h 11), .int 0, .int 0, .int (-1), .long 0, .long 0])), (h 2, .inr (0, [.int 0, .ref e0, .int 0]))]) [0, 1] rfl
  have hDc := hD.sub (ws' := [(h 0, .inr (12, [.ref (h 1), .ref (h 2), .ref (h 3), .ref (h 4), .ref (h 5), .ref (h 6), .ref (h 8), .ref (h 12), .ref (h 11), .int 0, .int 0, .int (-1), .long 0, .long 0])), (h 2, .inr (0, [.int 0, .ref e0, .int 0]))]) [0, 1] (by decide) rfl
  have hKc := hK.sub (tys' := []) [] rfl
  have hFc := va_free (wc := [(h 0, .inr (12, [.ref (h 1), .ref (h 2), .ref (h 3), .ref (h 4), .ref (h 5), .ref (h 6), .ref (h 8), .ref (h 12), .ref (h 11), .int 0, .int 0, .int (-1), .long 0, .long 0])), (h 2, .inr (0, [.int 0, .ref e0, .int 0]))]) hD hS hA [0, 1] rfl
  refine va_calli (va_runV (As := [.int (xs (Int32.toNatClampNeg 1)), .int (xs (Int32.toNatClampNeg 2)), .int (xs (Int32.toNatClampNeg 3))]) (rest := []) ⟨hx, hb, hml, hown, hts⟩ (c_X11_cut l hlt e0 dC dI H.size h (xs (Int32.toNatClampNeg 1)) (xs (Int32.toNatClampNeg 2)) (xs (Int32.toNatClampNeg 3))) (cwV 3 hts gL_law__X11_cut rfl rfl rfl (by decide +kernel) ⟨Nat.le_of_ble_eq_true rfl, Nat.le_of_ble_eq_true rfl⟩) (pz_preV [.int (xs (Int32.toNatClampNeg 1)), .int (xs (Int32.toNatClampNeg 2)), .int (xs (Int32.toNatClampNeg 3))] hPc hDc hKc hZ hV hT hS hFc (va_recv hKc hPc (ci := 12) (q0 := 0) rfl rfl)) rfl rfl hl.1 rfl (lv_room (Nat.le_of_ble_eq_true rfl)) dL_law__843 ⟨Nat.le_of_ble_eq_true rfl, Nat.le_of_ble_eq_true rfl⟩) hS (fun q _ h => hFc q h) hFc (fun r_4 u_5 t H locs ht hvm hw_6 hB_7 hz1 hk1 hS => ?_)
  obtain ⟨hP, hD⟩ := pz_rest (wr := [(g 0, .inr (13, [.ref (g 1), .int 0, .int 0, .int 0, .int 0, .int 0, .int 0, .int 0, .int 0, .int 0, .int (-1), .long 0, .long 0, .ref (g 14), .ref (g 15), .ref (g 16), .ref (g 17), .ref (g 18), .ref (g 19), .ref (g 20), .ref (g 21), .ref (g 22), .ref (g 23), .ref (g 24), .ref (g 25), .ref (g 26), .ref (g 27), .ref (g 28), .ref (g 29), .ref (g 30), .ref (g 31), .ref (g 32), .ref (g 33), .ref (g 34), .ref (g 35), .ref (g 36), .ref (g 37), .ref (g 38), .ref (g 39), .ref (g 40), .ref (g 41), .ref (g 42), .ref (g 43), .ref (g 44), .ref (g 45), .ref (g 46), .ref (g 47), .ref (g 48), .ref (g 49), .ref (g 50), .ref (g 51), .ref (g 52), .ref (g 53), .ref (g 54), .ref (g 55), .ref (g 56), .ref (g 57), .ref (g 58), .ref (g 59), .int 0, .int 0, .int 0, .int 0, .int 0, .int 0, .int 0, .int 0, .int 0, .int 0, .ref (g 70)])), (g 36, .inl (cb 36, 400, .inl (fun _ => 0))), (g 37, .inl (cb 37, 400, .inl (fun _ => 0))), (g 38, .inl (cb 38, 400, .inl (fun _ => 0))), (g 39, .inl (cb 39, 400, .inl (fun _ => 0))), (g 40, .inl (cb 40, 400, .inl (fun _ => 0))), (g 41, .inl (cb 41, 400, .inl (fun _ => 0))), (g 43, .inl (cb 43, 400, .inl (fun _ => 0)))]) hP hD [0, 1] [2, 3, 4, 5, 6, 7, 8, 9] rfl rfl (by decide) (by decide) hk1 hFc
  rcases hw_6 with ⟨hC, rfl⟩ | ⟨hC, rfl⟩
  ·
    refine lv_aload_n hx hb dL_law__846 rfl (lv_at hl 2 rfl) ?_
    refine lv_aload_n hx hb dL_law__847 rfl (lv_at hl 4 rfl) ?_
    refine lv_iload hx hb dL_law__848 (lv_at hl 0 rfl) ?_
    refine lv_iconst (v := 1) hx hb dL_law__850 (by decide) ?_
    refine lv_iadd hx hb dL_law__851 ?_
    refine lv_topi (fun x_8 ex_8 => ?_)
    obtain rfl : x_8 = 1 := ex_8.trans (by decide)
    refine va_sld hx hb hX hbl hbA hS (pz_inK (by decide)) dL_law__852 ?_
    refine lv_aload_n hx hb dL_law__853 rfl (lv_at hl 4 rfl) ?_
    refine lv_iload hx hb dL_law__854 (lv_at hl 0 rfl) ?_
    refine lv_iconst (v := 2) hx hb dL_law__856 (by decide) ?_
    refine lv_iadd hx hb dL_law__857 ?_
    refine lv_topi (fun x_9 ex_9 => ?_)
    obtain rfl : x_9 = 2 := ex_9.trans (by decide)
    refine va_sld hx hb hX hbl hbA hS (pz_inK (by decide)) dL_law__858 ?_
    refine lv_aload_n hx hb dL_law__859 rfl (lv_at hl 4 rfl) ?_
    refine lv_iload hx hb dL_law__860 (lv_at hl 0 rfl) ?_
    refine lv_iconst (v := 3) hx hb dL_law__862 (by decide) ?_
    refine lv_iadd hx hb dL_law__863 ?_
    refine lv_topi (fun x_10 ex_10 => ?_)
    obtain rfl : x_10 = 3 := ex_10.trans (by decide)
    refine va_sld hx hb hX hbl hbA hS (pz_inK (by decide)) dL_law__864 ?_
    have hPc := hP.sub (ws' := [(g 0, .inr (13, [.ref (g 1), .int 0, .int 0, .int 0, .int 0, .int 0, .int 0, .int 0, .int 0, .int 0, .int (-1), .long 0, .long 0, .ref (g 14), .ref (g 15), .ref (g 16), .ref (g 17), .ref (g 18), .ref (g 19), .ref (g 20), .ref (g 21), .ref (g 22), .ref (g 23), .ref (g 24), .ref (g 25), .ref (g 26), .ref (g 27), .ref (g 28), .ref (g 29), .ref (g 30), .ref (g 31), .ref (g 32), .ref (g 33), .ref (g 34), .ref (g 35), .ref (g 36), .ref (g 37), .ref (g 38), .ref (g 39), .ref (g 40), .ref (g 41), .ref (g 42), .ref (g 43), .ref (g 44), .ref (g 45), .ref (g 46), .ref (g 47), .ref (g 48), .ref (g 49), .ref (g 50), .ref (g 51), .ref (g 52), .ref (g 53), .ref (g 54), .ref (g 55), .ref (g 56), .ref (g 57), .ref (g 58), .ref (g 59), .int 0, .int 0, .int 0, .int 0, .int 0, .int 0, .int 0, .int 0, .int 0, .int 0, .ref (g 70)])), (g 36, .inl (cb 36, 400, .inl (fun _ => 0))), (g 37, .inl (cb 37, 400, .inl (fun _ => 0))), (g 38, .inl (cb 38, 400, .inl (fun _ => 0))), (g 39, .inl (cb 39, 400, .inl (fun _ => 0))), (g 40, .inl (cb 40, 400, .inl (fun _ => 0))), (g 41, .inl (cb 41, 400, .inl (fun _ => 0))), (g 43, .inl (cb 43, 400, .inl (fun _ => 0)))]) [0, 1, 2, 3, 4, 5, 6, 7] rfl
    have hDc := hD.sub (ws' := [(g 0, .inr (13, [.ref (g 1), .int 0, .int 0, .int 0, .int 0, .int 0, .int 0, .int 0, .int 0, .int 0, .int (-1), .long 0, .long 0, .ref (g 14), .ref (g 15), .ref (g 16), .ref (g 17), .ref (g 18), .ref (g 19), .ref (g 20), .ref (g 21), .ref (g 22), .ref (g 23), .ref (g 24), .ref (g 25), .ref (g 26), .ref (g 27), .ref (g 28), .ref (g 29), .ref (g 30), .ref (g 31), .ref (g 32), .ref (g 33), .ref (g 34), .ref (g 35), .ref (g 36), .ref (g 37), .ref (g 38), .ref (g 39), .ref (g 40), .ref (g 41), .ref (g 42), .ref (g 43), .ref (g 44), .ref (g 45), .ref (g 46), .ref (g 47), .ref (g 48), .ref (g 49), .ref (g 50), .ref (g 51), .ref (g 52), .ref (g 53), .ref (g 54), .ref (g 55), .ref (g 56), .ref (g 57), .ref (g 58), .ref (g 59), .int 0, .int 0, .int 0, .int 0, .int 0, .int 0, .int 0, .int 0, .int 0, .int 0, .ref (g 70)])), (g 36, .inl (cb 36, 400, .inl (fun _ => 0))), (g 37, .inl (cb 37, 400, .inl (fun _ => 0))), (g 38, .inl (cb 38, 400, .inl (fun _ => 0))), (g 39, .inl (cb 39, 400, .inl (fun _ => 0))), (g 40, .inl (cb 40, 400, .inl (fun _ => 0))), (g 41, .inl (cb 41, 400, .inl (fun _ => 0))), (g 43, .inl (cb 43, 400, .inl (fun _ => 0)))]) [0, 1, 2, 3, 4, 5, 6, 7] (by decide) rfl
    have hKc := hK.sub (tys' := [(cb 36, .int), (cb 37, .int), (cb 38, .int), (cb 39, .int), (cb 40, .int), (cb 41, .int), (cb 43, .int)]) [0, 1, 2, 3, 4, 5, 6] rfl
    have hFc := va_free (wc := [(g 0, .inr (13, [.ref (g 1), .int 0, .int 0, .int 0, .int 0, .int 0, .int 0, .int 0, .int 0, .int 0, .int (-1), .long 0, .long 0, .ref (g 14), .ref (g 15), .ref (g 16), .ref (g 17), .ref (g 18), .ref (g 19), .ref (g 20), .ref (g 21), .ref (g 22), .ref (g 23), .ref (g 24), .ref (g 25), .ref (g 26), .ref (g 27), .ref (g 28), .ref (g 29), .ref (g 30), .ref (g 31), .ref (g 32), .ref (g 33), .ref (g 34), .ref (g 35), .ref (g 36), .ref (g 37), .ref (g 38), .ref (g 39), .ref (g 40), .ref (g 41), .ref (g 42), .ref (g 43), .ref (g 44), .ref (g 45), .ref (g 46), .ref (g 47), .ref (g 48), .ref (g 49), .ref (g 50), .ref (g 51), .ref (g 52), .ref (g 53), .ref (g 54), .ref (g 55), .ref (g 56), .ref (g 57), .ref (g 58), .ref (g 59), .int 0, .int 0, .int 0, .int 0, .int 0, .int 0, .int 0, .int 0, .int 0, .int 0, .ref (g 70)])), (g 36, .inl (cb 36, 400, .inl (fun _ => 0))), (g 37, .inl (cb 37, 400, .inl (fun _ => 0))), (g 38, .inl (cb 38, 400, .inl (fun _ => 0))), (g 39, .inl (cb 39, 400, .inl (fun _ => 0))), (g 40, .inl (cb 40, 400, .inl (fun _ => 0))), (g 41, .inl (cb 41, 400, .inl (fun _ => 0))), (g 43, .inl (cb 43, 400, .inl (fun _ => 0)))]) hD hS hA [0, 1, 2, 3, 4, 5, 6, 7] rfl
    refine va_calli (va_runV (As := [.int (xs (Int32.toNatClampNeg 1)), .int (xs (Int32.toNatClampNeg 2)), .int (xs (Int32.toNatClampNeg 3))]) (rest := [.int 0]) ⟨hx, hb, hml, hown, hts⟩ (c_X12_cut l hlt e0 dC dI H.size g cb (xs (Int32.toNatClampNeg 1)) (xs (Int32.toNatClampNeg 2)) (xs (Int32.toNatClampNeg 3))) (cwV 3 hts gL_law__X12_cut rfl rfl rfl (by decide +kernel) ⟨Nat.le_of_ble_eq_true rfl, Nat.le_of_ble_eq_true rfl⟩) (pz_preV [.int (xs (Int32.toNatClampNeg 1)), .int (xs (Int32.toNatClampNeg 2)), .int (xs (Int32.toNatClampNeg 3))] hPc hDc hKc hZ hV hT hS hFc (va_recv hKc hPc (ci := 13) (q0 := 0) rfl rfl)) rfl rfl hl.1 rfl (lv_room (Nat.le_of_ble_eq_true rfl)) dL_law__865 ⟨Nat.le_of_ble_eq_true rfl, Nat.le_of_ble_eq_true rfl⟩) hS (fun q _ h => hFc q h) hFc (fun r_11 u_12 t H locs ht hvm hw_13 hB_14 hz1 hk1 hS => ?_)
    obtain ⟨hP, hD⟩ := pz_rest (wr := []) hP hD [0, 1, 2, 3, 4, 5, 6, 7] [] rfl rfl (by decide) (by decide) hk1 hFc
    rcases hw_13 with ⟨hC2, rfl⟩ | ⟨hC2, rfl⟩
    ·
      refine lv_icmp_eq (tgt := 1743) hx hb dL_law__868 (by decide) (fun c_15 => ?_) (fun c_15 => ?_)
      rotate_left
      · exact absurd c_15 (by decide)
      exact lc_end l C0 (Nat.le_of_ble_eq_true rfl) (Nat.le_of_ble_eq_true rfl) hAe hS ls (lv_sub hl [0, 4] rfl)
    ·
      exact absurd hC hC2
  ·
    refine lv_aload_n hx hb dL_law__846 rfl (lv_at hl 2 rfl) ?_
    refine lv_aload_n hx hb dL_law__847 rfl (lv_at hl 4 rfl) ?_
    refine lv_iload hx hb dL_law__848 (lv_at hl 0 rfl) ?_
    refine lv_iconst (v := 1) hx hb dL_law__850 (by decide) ?_
    refine lv_iadd hx hb dL_law__851 ?_
    refine lv_topi (fun x_16 ex_16 => ?_)
    obtain rfl : x_16 = 1 := ex_16.trans (by decide)
    refine va_sld hx hb hX hbl hbA hS (pz_inK (by decide)) dL_law__852 ?_
    refine lv_aload_n hx hb dL_law__853 rfl (lv_at hl 4 rfl) ?_
    refine lv_iload hx hb dL_law__854 (lv_at hl 0 rfl) ?_
    refine lv_iconst (v := 2) hx hb dL_law__856 (by decide) ?_
    refine lv_iadd hx hb dL_law__857 ?_
    refine lv_topi (fun x_17 ex_17 => ?_)
    obtain rfl : x_17 = 2 := ex_17.trans (by decide)
    refine va_sld hx hb hX hbl hbA hS (pz_inK (by decide)) dL_law__858 ?_
    refine lv_aload_n hx hb dL_law__859 rfl (lv_at hl 4 rfl) ?_
    refine lv_iload hx hb dL_law__860 (lv_at hl 0 rfl) ?_
    refine lv_iconst (v := 3) hx hb dL_law__862 (by decide) ?_
    refine lv_iadd hx hb dL_law__863 ?_
    refine lv_topi (fun x_18 ex_18 => ?_)
    obtain rfl : x_18 = 3 := ex_18.trans (by decide)
    refine va_sld hx hb hX hbl hbA hS (pz_inK (by decide)) dL_law__864 ?_
    have hPc := hP.sub (ws' := [(g 0, .inr (13, [.ref (g 1), .int 0, .int 0, .int 0, .int 0, .int 0, .int 0, .int 0, .int 0, .int 0, .int (-1), .long 0, .long 0, .ref (g 14), .ref (g 15), .ref (g 16), .ref (g 17), .ref (g 18), .ref (g 19), .ref (g 20), .ref (g 21), .ref (g 22), .ref (g 23), .ref (g 24), .ref (g 25), .ref (g 26), .ref (g 27), .ref (g 28), .ref (g 29), .ref (g 30), .ref (g 31), .ref (g 32), .ref (g 33), .ref (g 34), .ref (g 35), .ref (g 36), .ref (g 37), .ref (g 38), .ref (g 39), .ref (g 40), .ref (g 41), .ref (g 42), .ref (g 43), .ref (g 44), .ref (g 45), .ref (g 46), .ref (g 47), .ref (g 48), .ref (g 49), .ref (g 50), .ref (g 51), .ref (g 52), .ref (g 53), .ref (g 54), .ref (g 55), .ref (g 56), .ref (g 57), .ref (g 58), .ref (g 59), .int 0, .int 0, .int 0, .int 0, .int 0, .int 0, .int 0, .int 0, .int 0, .int 0, .ref (g 70)])), (g 36, .inl (cb 36, 400, .inl (fun _ => 0))), (g 37, .inl (cb 37, 400, .inl (fun _ => 0))), (g 38, .inl (cb 38, 400, .inl (fun _ => 0))), (g 39, .inl (cb 39, 400, .inl (fun _ => 0))), (g 40, .inl (cb 40, 400, .inl (fun _ => 0))), (g 41, .inl (cb 41, 400, .inl (fun _ => 0))), (g 43, .inl (cb 43, 400, .inl (fun _ => 0)))]) [0, 1, 2, 3, 4, 5, 6, 7] rfl
    have hDc := hD.sub (ws' := [(g 0, .inr (13, [.ref (g 1), .int 0, .int 0, .int 0, .int 0, .int 0, .int 0, .int 0, .int 0, .int 0, .int (-1), .long 0, .long 0, .ref (g 14), .ref (g 15), .ref (g 16), .ref (g 17), .ref (g 18), .ref (g 19), .ref (g 20), .ref (g 21), .ref (g 22), .ref (g 23), .ref (g 24), .ref (g 25), .ref (g 26), .ref (g 27), .ref (g 28), .ref (g 29), .ref (g 30), .ref (g 31), .ref (g 32), .ref (g 33), .ref (g 34), .ref (g 35), .ref (g 36), .ref (g 37), .ref (g 38), .ref (g 39), .ref (g 40), .ref (g 41), .ref (g 42), .ref (g 43), .ref (g 44), .ref (g 45), .ref (g 46), .ref (g 47), .ref (g 48), .ref (g 49), .ref (g 50), .ref (g 51), .ref (g 52), .ref (g 53), .ref (g 54), .ref (g 55), .ref (g 56), .ref (g 57), .ref (g 58), .ref (g 59), .int 0, .int 0, .int 0, .int 0, .int 0, .int 0, .int 0, .int 0, .int 0, .int 0, .ref (g 70)])), (g 36, .inl (cb 36, 400, .inl (fun _ => 0))), (g 37, .inl (cb 37, 400, .inl (fun _ => 0))), (g 38, .inl (cb 38, 400, .inl (fun _ => 0))), (g 39, .inl (cb 39, 400, .inl (fun _ => 0))), (g 40, .inl (cb 40, 400, .inl (fun _ => 0))), (g 41, .inl (cb 41, 400, .inl (fun _ => 0))), (g 43, .inl (cb 43, 400, .inl (fun _ => 0)))]) [0, 1, 2, 3, 4, 5, 6, 7] (by decide) rfl
    have hKc := hK.sub (tys' := [(cb 36, .int), (cb 37, .int), (cb 38, .int), (cb 39, .int), (cb 40, .int), (cb 41, .int), (cb 43, .int)]) [0, 1, 2, 3, 4, 5, 6] rfl
    have hFc := va_free (wc := [(g 0, .inr (13, [.ref (g 1), .int 0, .int 0, .int 0, .int 0, .int 0, .int 0, .int 0, .int 0, .int 0, .int (-1), .long 0, .long 0, .ref (g 14), .ref (g 15), .ref (g 16), .ref (g 17), .ref (g 18), .ref (g 19), .ref (g 20), .ref (g 21), .ref (g 22), .ref (g 23), .ref (g 24), .ref (g 25), .ref (g 26), .ref (g 27), .ref (g 28), .ref (g 29), .ref (g 30), .ref (g 31), .ref (g 32), .ref (g 33), .ref (g 34), .ref (g 35), .ref (g 36), .ref (g 37), .ref (g 38), .ref (g 39), .ref (g 40), .ref (g 41), .ref (g 42), .ref (g 43), .ref (g 44), .ref (g 45), .ref (g 46), .ref (g 47), .ref (g 48), .ref (g 49), .ref (g 50), .ref (g 51), .ref (g 52), .ref (g 53), .ref (g 54), .ref (g 55), .ref (g 56), .ref (g 57), .ref (g 58), .ref (g 59), .int 0, .int 0, .int 0, .int 0, .int 0, .int 0, .int 0, .int 0, .int 0, .int 0, .ref (g 70)])), (g 36, .inl (cb 36, 400, .inl (fun _ => 0))), (g 37, .inl (cb 37, 400, .inl (fun _ => 0))), (g 38, .inl (cb 38, 400, .inl (fun _ => 0))), (g 39, .inl (cb 39, 400, .inl (fun _ => 0))), (g 40, .inl (cb 40, 400, .inl (fun _ => 0))), (g 41, .inl (cb 41, 400, .inl (fun _ => 0))), (g 43, .inl (cb 43, 400, .inl (fun _ => 0)))]) hD hS hA [0, 1, 2, 3, 4, 5, 6, 7] rfl
    refine va_calli (va_runV (As := [.int (xs (Int32.toNatClampNeg 1)), .int (xs (Int32.toNatClampNeg 2)), .int (xs (Int32.toNatClampNeg 3))]) (rest := [.int (-1)]) ⟨hx, hb, hml, hown, hts⟩ (c_X12_cut l hlt e0 dC dI H.size g cb (xs (Int32.toNatClampNeg 1)) (xs (Int32.toNatClampNeg 2)) (xs (Int32.toNatClampNeg 3))) (cwV 3 hts gL_law__X12_cut rfl rfl rfl (by decide +kernel) ⟨Nat.le_of_ble_eq_true rfl, Nat.le_of_ble_eq_true rfl⟩) (pz_preV [.int (xs (Int32.toNatClampNeg 1)), .int (xs (Int32.toNatClampNeg 2)), .int (xs (Int32.toNatClampNeg 3))] hPc hDc hKc hZ hV hT hS hFc (va_recv hKc hPc (ci := 13) (q0 := 0) rfl rfl)) rfl rfl hl.1 rfl (lv_room (Nat.le_of_ble_eq_true rfl)) dL_law__865 ⟨Nat.le_of_ble_eq_true rfl, Nat.le_of_ble_eq_true rfl⟩) hS (fun q _ h => hFc q h) hFc (fun r_19 u_20 t H locs ht hvm hw_21 hB_22 hz1 hk1 hS => ?_)
    obtain ⟨hP, hD⟩ := pz_rest (wr := []) hP hD [0, 1, 2, 3, 4, 5, 6, 7] [] rfl rfl (by decide) (by decide) hk1 hFc
    rcases hw_21 with ⟨hC2, rfl⟩ | ⟨hC2, rfl⟩
    ·
      exact absurd hC2 hC
    ·
      refine lv_icmp_eq (tgt := 1743) hx hb dL_law__868 (by decide) (fun c_23 => ?_) (fun c_23 => ?_)
      rotate_left
      · exact absurd c_23 (by decide)
      exact lc_end l C0 (Nat.le_of_ble_eq_true rfl) (Nat.le_of_ble_eq_true rfl) hAe hS ls (lv_sub hl [0, 4] rfl)

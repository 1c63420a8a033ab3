theorem dL_law__1521 : decode cL_law_ 1521 = .ok (.aload_n 1, 1) := by decide +kernel
theorem dL_law__1522 : decode cL_law_ 1522 = .ok (.aload_n 0, 1) := by decide +kernel
theorem dL_law__1523 : decode cL_law_ 1523 = .ok (.iload 4, 2) := by decide +kernel
theorem dL_law__1525 : decode cL_law_ 1525 = .ok (.iconst 1, 1) := by decide +kernel
theorem dL_law__1526 : decode cL_law_ 1526 = .ok (.iadd, 1) := by decide +kernel
theorem dL_law__1527 : decode cL_law_ 1527 = .ok (.iaload, 1) := by decide +kernel
theorem dL_law__1528 : decode cL_law_ 1528 = .ok (.aload_n 3, 1) := by decide +kernel
theorem dL_law__1529 : decode cL_law_ 1529 = .ok (.invokestatic 161, 3) := by decide +kernel
theorem dL_law__1532 : decode cL_law_ 1532 = .ok (.istore 5, 2) := by decide +kernel
theorem dL_law__1534 : decode cL_law_ 1534 = .ok (.aload_n 2, 1) := by decide +kernel
theorem dL_law__1535 : decode cL_law_ 1535 = .ok (.aload_n 0, 1) := by decide +kernel
theorem dL_law__1536 : decode cL_law_ 1536 = .ok (.iload 4, 2) := by decide +kernel
theorem dL_law__1538 : decode cL_law_ 1538 = .ok (.iconst 1, 1) := by decide +kernel
theorem dL_law__1539 : decode cL_law_ 1539 = .ok (.iadd, 1) := by decide +kernel
theorem dL_law__1540 : decode cL_law_ 1540 = .ok (.iaload, 1) := by decide +kernel
theorem dL_law__1541 : decode cL_law_ 1541 = .ok (.invokevirtual 163, 3) := by decide +kernel
theorem dL_law__1544 : decode cL_law_ 1544 = .ok (.lstore 6, 2) := by decide +kernel
theorem dL_law__1546 : decode cL_law_ 1546 = .ok (.aload_n 2, 1) := by decide +kernel
theorem dL_law__1547 : decode cL_law_ 1547 = .ok (.invokevirtual 95, 3) := by decide +kernel
theorem dL_law__1550 : decode cL_law_ 1550 = .ok (.iload 5, 2) := by decide +kernel
theorem dL_law__1552 : decode cL_law_ 1552 = .ok (.if_icmp .eq 5, 3) := by decide +kernel
theorem dL_law__1557 : decode cL_law_ 1557 = .ok (.iload 5, 2) := by decide +kernel
theorem dL_law__1559 : decode cL_law_ 1559 = .ok (.ifCond .ne 14, 3) := by decide +kernel
theorem dL_law__1562 : decode cL_law_ 1562 = .ok (.aload_n 3, 1) := by decide +kernel
theorem dL_law__1563 : decode cL_law_ 1563 = .ok (.iconst 0, 1) := by decide +kernel
theorem dL_law__1564 : decode cL_law_ 1564 = .ok (.laload, 1) := by decide +kernel
theorem dL_law__1565 : decode cL_law_ 1565 = .ok (.lload 6, 2) := by decide +kernel
theorem dL_law__1567 : decode cL_law_ 1567 = .ok (.lcmp, 1) := by decide +kernel
theorem dL_law__1568 : decode cL_law_ 1568 = .ok (.ifCond .eq 5, 3) := by decide +kernel
theorem dL_law__1573 : decode cL_law_ 1573 = .ok (.goto 170, 3) := by decide +kernel
theorem dL_law__1576 : decode cL_law_ 1576 = .ok (.aload_n 1, 1) := by decide +kernel
theorem dL_law__1577 : decode cL_law_ 1577 = .ok (.aload_n 0, 1) := by decide +kernel
theorem dL_law__1578 : decode cL_law_ 1578 = .ok (.iload 4, 2) := by decide +kernel
theorem dL_law__1580 : decode cL_law_ 1580 = .ok (.iconst 1, 1) := by decide +kernel
theorem dL_law__1581 : decode cL_law_ 1581 = .ok (.iadd, 1) := by decide +kernel
theorem dL_law__1582 : decode cL_law_ 1582 = .ok (.iaload, 1) := by decide +kernel
theorem dL_law__1583 : decode cL_law_ 1583 = .ok (.aload_n 3, 1) := by decide +kernel
theorem dL_law__1584 : decode cL_law_ 1584 = .ok (.invokestatic 164, 3) := by decide +kernel
theorem dL_law__1587 : decode cL_law_ 1587 = .ok (.istore 5, 2) := by decide +kernel
theorem dL_law__1589 : decode cL_law_ 1589 = .ok (.aload_n 2, 1) := by decide +kernel
theorem dL_law__1590 : decode cL_law_ 1590 = .ok (.aload_n 0, 1) := by decide +kernel
theorem dL_law__1591 : decode cL_law_ 1591 = .ok (.iload 4, 2) := by decide +kernel
theorem dL_law__1593 : decode cL_law_ 1593 = .ok (.iconst 1, 1) := by decide +kernel
theorem dL_law__1594 : decode cL_law_ 1594 = .ok (.iadd, 1) := by decide +kernel
theorem dL_law__1595 : decode cL_law_ 1595 = .ok (.iaload, 1) := by decide +kernel
theorem dL_law__1596 : decode cL_law_ 1596 = .ok (.invokevirtual 166, 3) := by decide +kernel
theorem dL_law__1599 : decode cL_law_ 1599 = .ok (.istore 6, 2) := by decide +kernel
theorem dL_law__1601 : decode cL_law_ 1601 = .ok (.aload_n 2, 1) := by decide +kernel
theorem dL_law__1602 : decode cL_law_ 1602 = .ok (.invokevirtual 95, 3) := by decide +kernel
theorem dL_law__1605 : decode cL_law_ 1605 = .ok (.iload 5, 2) := by decide +kernel
theorem dL_law__1607 : decode cL_law_ 1607 = .ok (.if_icmp .eq 5, 3) := by decide +kernel
theorem dL_law__1612 : decode cL_law_ 1612 = .ok (.iload 5, 2) := by decide +kernel
theorem dL_law__1614 : decode cL_law_ 1614 = .ok (.ifCond .ne 15, 3) := by decide +kernel
theorem dL_law__1629 : decode cL_law_ 1629 = .ok (.goto 114, 3) := by decide +kernel
theorem dL_law__1632 : decode cL_law_ 1632 = .ok (.aload_n 1, 1) := by decide +kernel
theorem dL_law__1633 : decode cL_law_ 1633 = .ok (.aload_n 0, 1) := by decide +kernel
theorem dL_law__1634 : decode cL_law_ 1634 = .ok (.iload 4, 2) := by decide +kernel
theorem dL_law__1636 : decode cL_law_ 1636 = .ok (.iconst 1, 1) := by decide +kernel
theorem dL_law__1637 : decode cL_law_ 1637 = .ok (.iadd, 1) := by decide +kernel
theorem dL_law__1638 : decode cL_law_ 1638 = .ok (.iaload, 1) := by decide +kernel
theorem dL_law__1639 : decode cL_law_ 1639 = .ok (.aload_n 3, 1) := by decide +kernel
theorem dL_law__1640 : decode cL_law_ 1640 = .ok (.invokestatic 167, 3) := by decide +kernel
theorem dL_law__1643 : decode cL_law_ 1643 = .ok (.istore 5, 2) := by decide +kernel
theorem dL_law__1645 : decode cL_law_ 1645 = .ok (.aload_n 2, 1) := by decide +kernel
theorem dL_law__1646 : decode cL_law_ 1646 = .ok (.aload_n 0, 1) := by decide +kernel
theorem dL_law__1647 : decode cL_law_ 1647 = .ok (.iload 4, 2) := by decide +kernel
theorem dL_law__1649 : decode cL_law_ 1649 = .ok (.iconst 1, 1) := by decide +kernel
theorem dL_law__1650 : decode cL_law_ 1650 = .ok (.iadd, 1) := by decide +kernel
theorem dL_law__1651 : decode cL_law_ 1651 = .ok (.iaload, 1) := by decide +kernel
theorem dL_law__1652 : decode cL_law_ 1652 = .ok (.invokevirtual 169, 3) := by decide +kernel
theorem dL_law__1655 : decode cL_law_ 1655 = .ok (.lstore 6, 2) := by decide +kernel
theorem dL_law__1657 : decode cL_law_ 1657 = .ok (.aload_n 2, 1) := by decide +kernel
theorem dL_law__1658 : decode cL_law_ 1658 = .ok (.invokevirtual 95, 3) := by decide +kernel
theorem dL_law__1661 : decode cL_law_ 1661 = .ok (.iload 5, 2) := by decide +kernel
theorem dL_law__1663 : decode cL_law_ 1663 = .ok (.if_icmp .eq 5, 3) := by decide +kernel
theorem dL_law__1668 : decode cL_law_ 1668 = .ok (.iload 5, 2) := by decide +kernel
theorem dL_law__1670 : decode cL_law_ 1670 = .ok (.ifCond .ne 14, 3) := by decide +kernel
theorem dL_law__1673 : decode cL_law_ 1673 = .ok (.aload_n 3, 1) := by decide +kernel
theorem dL_law__1674 : decode cL_law_ 1674 = .ok (.iconst 0, 1) := by decide +kernel
theorem dL_law__1675 : decode cL_law_ 1675 = .ok (.laload, 1) := by decide +kernel
theorem dL_law__1676 : decode cL_law_ 1676 = .ok (.lload 6, 2) := by decide +kernel
theorem dL_law__1678 : decode cL_law_ 1678 = .ok (.lcmp, 1) := by decide +kernel
theorem dL_law__1679 : decode cL_law_ 1679 = .ok (.ifCond .eq 5, 3) := by decide +kernel
theorem dL_law__1684 : decode cL_law_ 1684 = .ok (.goto 59, 3) := by decide +kernel
theorem dL_law__1687 : decode cL_law_ 1687 = .ok (.aload_n 1, 1) := by decide +kernel
theorem dL_law__1688 : decode cL_law_ 1688 = .ok (.aload_n 0, 1) := by decide +kernel
theorem dL_law__1689 : decode cL_law_ 1689 = .ok (.iload 4, 2) := by decide +kernel
theorem dL_law__1691 : decode cL_law_ 1691 = .ok (.iconst 1, 1) := by decide +kernel
theorem dL_law__1692 : decode cL_law_ 1692 = .ok (.iadd, 1) := by decide +kernel
theorem dL_law__1693 : decode cL_law_ 1693 = .ok (.iaload, 1) := by decide +kernel
theorem dL_law__1694 : decode cL_law_ 1694 = .ok (.aload_n 3, 1) := by decide +kernel
theorem dL_law__1695 : decode cL_law_ 1695 = .ok (.invokestatic 170, 3) := by decide +kernel
theorem dL_law__1698 : decode cL_law_ 1698 = .ok (.istore 5, 2) := by decide +kernel
theorem dL_law__1700 : decode cL_law_ 1700 = .ok (.aload_n 2, 1) := by decide +kernel
theorem dL_law__1701 : decode cL_law_ 1701 = .ok (.aload_n 0, 1) := by decide +kernel
theorem dL_law__1702 : decode cL_law_ 1702 = .ok (.iload 4, 2) := by decide +kernel
theorem dL_law__1704 : decode cL_law_ 1704 = .ok (.iconst 1, 1) := by decide +kernel
theorem dL_law__1705 : decode cL_law_ 1705 = .ok (.iadd, 1) := by decide +kernel
theorem dL_law__1706 : decode cL_law_ 1706 = .ok (.iaload, 1) := by decide +kernel
theorem dL_law__1707 : decode cL_law_ 1707 = .ok (.invokevirtual 172, 3) := by decide +kernel
theorem dL_law__1710 : decode cL_law_ 1710 = .ok (.istore 6, 2) := by decide +kernel
theorem dL_law__1712 : decode cL_law_ 1712 = .ok (.aload_n 2, 1) := by decide +kernel
theorem dL_law__1713 : decode cL_law_ 1713 = .ok (.invokevirtual 95, 3) := by decide +kernel
theorem dL_law__1716 : decode cL_law_ 1716 = .ok (.iload 5, 2) := by decide +kernel
theorem dL_law__1718 : decode cL_law_ 1718 = .ok (.if_icmp .eq 5, 3) := by decide +kernel
theorem dL_law__1723 : decode cL_law_ 1723 = .ok (.iload 5, 2) := by decide +kernel
theorem dL_law__1725 : decode cL_law_ 1725 = .ok (.ifCond .ne 15, 3) := by decide +kernel
theorem dL_law__1728 : decode cL_law_ 1728 = .ok (.aload_n 3, 1) := by decide +kernel
theorem dL_law__1729 : decode cL_law_ 1729 = .ok (.iconst 0, 1) := by decide +kernel
theorem dL_law__1730 : decode cL_law_ 1730 = .ok (.laload, 1) := by decide +kernel
theorem dL_law__1731 : decode cL_law_ 1731 = .ok (.iload 6, 2) := by decide +kernel
theorem dL_law__1733 : decode cL_law_ 1733 = .ok (.i2l, 1) := by decide +kernel
theorem dL_law__1734 : decode cL_law_ 1734 = .ok (.lcmp, 1) := by decide +kernel
theorem dL_law__1735 : decode cL_law_ 1735 = .ok (.ifCond .eq 5, 3) := by decide +kernel
theorem dL_law__1740 : decode cL_law_ 1740 = .ok (.goto 3, 3) := by decide +kernel
set_option maxRecDepth 20000 in
theorem ggL_law__L_board : GoodIn wsL_law_ wsL_board := goodIn_ca (goodIn_r _ [1077, 248, 1078, 1079, 1080, 2, 1081, 260, 261, 17, 673, 1010, 904, 144, 145, 146, 15, 147, 148, 152, 153, 154, 155, 156, 157, 158, 159, 160, 161, 162, 163, 164, 165, 166, 167, 39, 149, 150, 151, 1112, 1113, 1114, 1115, 1116, 1117, 1118, 1119, 1120, 1121, 1122, 1123, 1124, 1125, 1241, 1242, 1243, 1244, 1245, 1246, 1247, 1248, 1249, 1196, 1197, 1198] (by decide +kernel) (by decide +kernel)) (goodIn_sub (fun _ h => List.mem_append_left _ (List.mem_append_right _ h)) (by decide +kernel))
set_option maxRecDepth 20000 in
theorem gL_law__L_board : GoodIn wsL_law_ (va_wsS RL 164 yL_board wsL_board) := goodIn_app (goodIn_of _ (by decide +kernel)) ggL_law__L_board
set_option maxRecDepth 20000 in
theorem ggL_law__L_count : GoodIn wsL_law_ wsL_count := goodIn_ca (goodIn_r _ [1099, 248, 1100, 1101, 1102, 2, 1103, 260, 261, 351, 16, 17, 18, 903, 19, 20, 24, 379, 144, 145, 146, 15, 147, 148, 1104, 1105, 1106, 1107, 135, 139, 809, 1022, 810, 152, 153, 154, 155, 156, 157, 158, 159, 160, 161, 162, 163, 164, 165, 166, 167, 39, 1112, 1113, 1114, 1115, 1116, 1117, 1118, 1119, 1120, 1121, 1122, 1123, 1124, 1125, 1199, 1200, 1196, 1197, 1198, 1216, 1217, 1218, 1219, 1220, 1221, 1222, 1223, 1224, 1225, 1226, 1227, 1228, 1229, 1230, 1231, 1232] (by decide +kernel) (by decide +kernel)) (goodIn_sub (fun _ h => List.mem_append_left _ (List.mem_append_right _ h)) (by decide +kernel))
set_option maxRecDepth 20000 in
theorem gL_law__L_count : GoodIn wsL_law_ (va_wsS RL 170 yL_count wsL_count) := goodIn_app (goodIn_of _ (by decide +kernel)) ggL_law__L_count
set_option maxRecDepth 20000 in
theorem ggL_law__L_paid : GoodIn wsL_law_ wsL_paid := goodIn_ca (goodIn_r _ [1088, 248, 1089, 1090, 1091, 2, 1092, 260, 261, 33, 149, 150, 151, 1112, 1113, 1114, 1115, 1116, 1117, 1118, 1119, 1120, 1121, 1122, 1123, 1124, 1125] (by decide +kernel) (by decide +kernel)) (goodIn_sub (fun _ h => List.mem_append_left _ (List.mem_append_right _ h)) (by decide +kernel))
set_option maxRecDepth 20000 in
theorem gL_law__L_paid : GoodIn wsL_law_ (va_wsS RL 167 yL_paid wsL_paid) := goodIn_app (goodIn_of _ (by decide +kernel)) ggL_law__L_paid
set_option maxRecDepth 20000 in
theorem ggL_law__L_waters : GoodIn wsL_law_ wsL_waters := goodIn_ca (goodIn_r _ [1066, 248, 1067, 1068, 1069, 2, 1070, 260, 261, 784, 786, 1112, 1113, 1114, 1115, 1116, 1117, 1118, 1119, 1120, 1121, 1122, 1123, 1124, 1125] (by decide +kernel) (by decide +kernel)) (goodIn_sub (fun _ h => List.mem_append_left _ (List.mem_append_right _ h)) (by decide +kernel))
set_option maxRecDepth 20000 in
theorem gL_law__L_waters : GoodIn wsL_law_ (va_wsS RL 161 yL_waters wsL_waters) := goodIn_app (goodIn_of _ (by decide +kernel)) ggL_law__L_waters
set_option maxRecDepth 20000 in
theorem ggL_law__X12_board : GoodIn wsL_law_ wsX12_board := goodIn_r _ [1085, 242, 966, 114, 271, 272, 273, 5, 274, 1126, 1127, 1128, 1129, 1130, 1131, 1132, 1133, 1134, 1135, 1136, 1137, 1138, 1139, 1140, 1141, 1142, 1143, 1144, 1145, 1146, 1147, 1148, 1149, 1150, 1151, 1152, 1153, 1154, 1155, 1156, 1157, 1158, 1159, 1160, 1161, 1162, 1163, 1164, 1165, 1166, 1167, 1168, 1169, 1170, 1171, 1172, 1173, 1174, 1175, 1176, 1177, 1178, 1179, 1180, 1181, 1182, 1183, 1184, 1185, 1186, 1187, 1188, 1189, 1190, 1191, 1192, 1193, 1194, 1195] (by decide +kernel) (by decide +kernel)
set_option maxRecDepth 20000 in
theorem gL_law__X12_board : GoodIn wsL_law_ (wsV RL 166 RX12 yX12_board wsX12_board) := goodIn_app (goodIn_of _ (by decide +kernel)) ggL_law__X12_board
set_option maxRecDepth 20000 in
theorem ggL_law__X12_count : GoodIn wsL_law_ wsX12_count := goodIn_r _ [1111, 242, 104, 105, 374, 243, 658, 559, 966, 373, 961, 389, 271, 272, 273, 5, 274, 1126, 1127, 1128, 1129, 1130, 1131, 1132, 1133, 1134, 1135, 1136, 1137, 1138, 1139, 1140, 1141, 1142, 1143, 1144, 1145, 1146, 1147, 1148, 1149, 1150, 1151, 1152, 1153, 1154, 1155, 1156, 1157, 1158, 1159, 1160, 1161, 1162, 1163, 1164, 1165, 1166, 1167, 1168, 1169, 1170, 1171, 1172, 1173, 1174, 1175, 1176, 1177, 1178, 1179, 1180, 1181, 1182, 1183, 1184, 1185, 1186, 1187, 1188, 1189, 1190, 1191, 1192, 1193, 1194, 1195] (by decide +kernel) (by decide +kernel)
set_option maxRecDepth 20000 in
theorem gL_law__X12_count : GoodIn wsL_law_ (wsV RL 172 RX12 yX12_count wsX12_count) := goodIn_app (goodIn_of _ (by decide +kernel)) ggL_law__X12_count
set_option maxRecDepth 20000 in
theorem ggL_law__X12_paid : GoodIn wsL_law_ wsX12_paid := goodIn_r _ [1096, 242, 122, 271, 272, 273, 5, 274, 1126, 1127, 1128, 1129, 1130, 1131, 1132, 1133, 1134, 1135, 1136, 1137, 1138, 1139, 1140, 1141, 1142, 1143, 1144, 1145, 1146, 1147, 1148, 1149, 1150, 1151, 1152, 1153, 1154, 1155, 1156, 1157, 1158, 1159, 1160, 1161, 1162, 1163, 1164, 1165, 1166, 1167, 1168, 1169, 1170, 1171, 1172, 1173, 1174, 1175, 1176, 1177, 1178, 1179, 1180, 1181, 1182, 1183, 1184, 1185, 1186, 1187, 1188, 1189, 1190, 1191, 1192, 1193, 1194, 1195] (by decide +kernel) (by decide +kernel)
set_option maxRecDepth 20000 in
theorem gL_law__X12_paid : GoodIn wsL_law_ (wsV RL 169 RX12 yX12_paid wsX12_paid) := goodIn_app (goodIn_of _ (by decide +kernel)) ggL_law__X12_paid
set_option maxRecDepth 20000 in
theorem ggL_law__X12_waters : GoodIn wsL_law_ wsX12_waters := goodIn_r _ [1074, 242, 929, 932, 271, 272, 273, 5, 274, 1126, 1127, 1128, 1129, 1130, 1131, 1132, 1133, 1134, 1135, 1136, 1137, 1138, 1139, 1140, 1141, 1142, 1143, 1144, 1145, 1146, 1147, 1148, 1149, 1150, 1151, 1152, 1153, 1154, 1155, 1156, 1157, 1158, 1159, 1160, 1161, 1162, 1163, 1164, 1165, 1166, 1167, 1168, 1169, 1170, 1171, 1172, 1173, 1174, 1175, 1176, 1177, 1178, 1179, 1180, 1181, 1182, 1183, 1184, 1185, 1186, 1187, 1188, 1189, 1190, 1191, 1192, 1193, 1194, 1195] (by decide +kernel) (by decide +kernel)
set_option maxRecDepth 20000 in
theorem gL_law__X12_waters : GoodIn wsL_law_ (wsV RL 163 RX12 yX12_waters wsX12_waters) := goodIn_app (goodIn_of _ (by decide +kernel)) ggL_law__X12_waters
set_option maxHeartbeats 8000000 in
set_option maxRecDepth 100000 in
/-- the law's case 20: waters -/
theorem lc_waters {p : Program} {e : Env} {s : State} {m : MethodId} {below : List Frame} {meth : Method} {c : Code} (l : Launch) (hlt : l.stackTraces = false) {b : Nat} {xs : Nat → Int32} (C0 : lw_At p s m meth c b 6 xs) (e0 : Nat) (dC : Nat → ClassId) (dI : Nat → Nat → Nat) (h g : Nat → Nat) (ca cb : Nat → ClassId) (qo : Nat) (cO : ClassId) (fo : Nat → Int64) {A : Nat → Prop} (hAe : (fun q : Nat => s.heap.size ≤ q) = A) {H : Heap} {locs : List Loc} (hK : va_K (dC, dI) vwCl [(cO, .long)] s) (hP : va_P (dC, dI) vwCl [(h 0, .inr (12, [.ref (h 1), .ref (h 2), .ref (h 3), .ref (h 4), .ref (h 5), .ref (h 6), .ref (h 8), .ref (h 12), .ref (h 11), .int 0, .int 0, .int (-1), .long 0, .long 0])), (qo, .inl (cO, 1, .inr (.inl fo))), (g 0, .inr (13, [.ref (g 1), .int 0, .int 0, .int 0, .int 0, .int 0, .int 0, .int 0, .int 0, .int 0, .int (-1), .long 0, .long 0, .ref (g 14), .ref (g 15), .ref (g 16), .ref (g 17), .ref (g 18), .ref (g 19), .ref (g 20), .ref (g 21), .ref (g 22), .ref (g 23), .ref (g 24), .ref (g 25), .ref (g 26), .ref (g 27), .ref (g 28), .ref (g 29), .ref (g 30), .ref (g 31), .ref (g 32), .ref (g 33), .ref (g 34), .ref (g 35), .ref (g 36), .ref (g 37), .ref (g 38), .ref (g 39), .ref (g 40), .ref (g 41), .ref (g 42), .ref (g 43), .ref (g 44), .ref (g 45), .ref (g 46), .ref (g 47), .ref (g 48), .ref (g 49), .ref (g 50), .ref (g 51), .ref (g 52), .ref (g 53), .ref (g 54), .ref (g 55), .ref (g 56), .ref (g 57), .ref (g 58), .ref (g 59), .int 0, .int 0, .int 0, .int 0, .int 0, .int 0, .int 0, .int 0, .int 0, .int 0, .ref (g 70)]))] H) (hD : va_D A [(h 0, .inr (12, [.ref (h 1), .ref (h 2), .ref (h 3), .ref (h 4), .ref (h 5), .ref (h 6), .ref (h 8), .ref (h 12), .ref (h 11), .int 0, .int 0, .int (-1), .long 0, .long 0])), (qo, .inl (cO, 1, .inr (.inl fo))), (g 0, .inr (13, [.ref (g 1), .int 0, .int 0, .int 0, .int 0, .int 0, .int 0, .int 0, .int 0, .int 0, .int (-1), .long 0, .long 0, .ref (g 14), .ref (g 15), .ref (g 16), .ref (g 17), .ref (g 18), .ref (g 19), .ref (g 20), .ref (g 21), .ref (g 22), .ref (g 23), .ref (g 24), .ref (g 25), .ref (g 26), .ref (g 27), .ref (g 28), .ref (g 29), .ref (g 30), .ref (g 31), .ref (g 32), .ref (g 33), .ref (g 34), .ref (g 35), .ref (g 36), .ref (g 37), .ref (g 38), .ref (g 39), .ref (g 40), .ref (g 41), .ref (g 42), .ref (g 43), .ref (g 44), .ref (g 45), .ref (g 46), .ref (g 47), .ref (g 48), .ref (g 49), .ref (g 50), .ref (g 51), .ref (g 52), .ref (g 53), .ref (g 54), .ref (g 55), .ref (g 56), .ref (g 57), .ref (g 58), .ref (g 59), .int 0, .int 0, .int 0, .int 0, .int 0, .int 0, .int 0, .int 0, .int 0, .int 0, .ref (g 70)]))]) (hS : va_S A s.heap H locs) (hZ : pz_s e0 A s s.heap) (hV : pz_v s) (hT : pz_t A s s.heap) (ls : Array Slot) (hl : lv_has ls 8 [(4, .int 0), (3, .ref qo), (2, .ref (g 0)), (1, .ref (h 0)), (0, .ref b)]) : W p l e room_1 s m #[Value.ref b] below meth c H locs 300 100000 (lw_Z below #[Value.ref b] s) (F0 m 1521 ls []) := by
  obtain ⟨hx, hb, hr, hml, hown, hts, hX, hbl, hlocks, hgv⟩ := id C0
  have hown : s.vm.findClass RL = some m.cls := hown
  have hts := fun w h => hts w (wsL_law__in w h)
  have hA : ∀ q : Nat, s.heap.size ≤ q → A q := fun q h => by rw [← hAe]; exact h
  have hbA : ¬ A b := by rw [← hAe]; exact Nat.not_le.mpr hbl
  refine lv_aload_n hx hb dL_law__1521 rfl (lv_at hl 3 rfl) ?_
  refine lv_aload_n hx hb dL_law__1522 rfl (lv_at hl 4 rfl) ?_
  refine lv_iload hx hb dL_law__1523 (lv_at hl 0 rfl) ?_
  refine lv_iconst (v := 1) hx hb dL_law__1525 (by decide) ?_
  refine lv_iadd hx hb dL_law__1526 ?_
  refine lv_topi (fun x_1 ex_1 => ?_)
  obtain rfl : x_1 = 1 := ex_1.trans (by decide)
  refine va_sld hx hb hX hbl hbA hS (pz_inK (by decide)) dL_law__1527 ?_
  refine lv_aload_n hx hb dL_law__1528 rfl (lv_at hl 1 rfl) ?_
  have hPc := hP.sub (ws' := [(h 0, .inr (12, [.ref (h 1), .ref (h 2), .ref (h 3), .ref (h 4), .ref (h 5), .ref (h 6), .ref (h 8), .ref (h 12), .ref (h 11), .int 0, .int 0, .int (-1), .long 0, .long 0])), (qo, .inl (cO, 1, .inr (.inl fo)))]) [0, 1] rfl
  have hDc := hD.sub (ws' := [(h 0, .inr (12, [.ref (h 1), .ref (h 2), .ref (h 3), .ref (h 4), .ref (h 5), .ref (h 6), .ref (h 8), .ref (h 12), .ref (h 11), .int 0, .int 0, .int (-1), .long 0, .long 0])), (qo, .inl (cO, 1, .inr (.inl fo)))]) [0, 1] (by decide) rfl
  have hKc := hK.sub (tys' := [(cO, .long)]) [0] rfl
  have hFc := va_free (wc := [(h 0, .inr (12, [.ref (h 1), .ref (h 2), .ref (h 3), .ref (h 4), .ref (h 5), .ref (h 6), .ref (h 8), .ref (h 12), .ref (h 11), .int 0, .int 0, .int (-1), .long 0, .long 0])), (qo, .inl (cO, 1, .inr (.inl fo)))]) hD hS hA [0, 1] rfl
  refine vx_calli (vx_runSX (As := [.ref (h 0), .int (xs (Int32.toNatClampNeg 1)), .ref qo]) (rest := []) ⟨hx, hb, hml, hown, hts⟩ (c_L_waters l hlt e0 dC dI H.size h qo cO fo (xs (Int32.toNatClampNeg 1))) (vx_cwSW 3 hts gL_law__L_waters rfl rfl rfl (by decide +kernel) ⟨Nat.le_of_ble_eq_true rfl, Nat.le_of_ble_eq_true rfl⟩) (pz_preS [.ref (h 0), .int (xs (Int32.toNatClampNeg 1)), .ref qo] hPc hDc hKc hZ hV hT hS hFc) rfl rfl hl.1 rfl (lv_room (Nat.le_of_ble_eq_true rfl)) dL_law__1529 ⟨Nat.le_of_ble_eq_true rfl, Nat.le_of_ble_eq_true rfl⟩) hS (fun q _ h => hFc q h) hFc (fun q _ h => hFc q h) (fun E ce qx_6 u_3 t H locs ht hvm hpx hE hz1 hk1 hS hce hcv hcl => ?_) (fun r_2 u_3 t H locs ht hvm hw_4 hB_5 hz1 hk1 hS => ?_)
  ·
    exact hpx.elim
  ·
    obtain ⟨hP1, hD1⟩ := hB_5
    rw [ht] at hP1
    obtain ⟨hP, hD⟩ := va_join (wr := [(g 0, .inr (13, [.ref (g 1), .int 0, .int 0, .int 0, .int 0, .int 0, .int 0, .int 0, .int 0, .int 0, .int (-1), .long 0, .long 0, .ref (g 14), .ref (g 15), .ref (g 16), .ref (g 17), .ref (g 18), .ref (g 19), .ref (g 20), .ref (g 21), .ref (g 22), .ref (g 23), .ref (g 24), .ref (g 25), .ref (g 26), .ref (g 27), .ref (g 28), .ref (g 29), .ref (g 30), .ref (g 31), .ref (g 32), .ref (g 33), .ref (g 34), .ref (g 35), .ref (g 36), .ref (g 37), .ref (g 38), .ref (g 39), .ref (g 40), .ref (g 41), .ref (g 42), .ref (g 43), .ref (g 44), .ref (g 45), .ref (g 46), .ref (g 47), .ref (g 48), .ref (g 49), .ref (g 50), .ref (g 51), .ref (g 52), .ref (g 53), .ref (g 54), .ref (g 55), .ref (g 56), .ref (g 57), .ref (g 58), .ref (g 59), .int 0, .int 0, .int 0, .int 0, .int 0, .int 0, .int 0, .int 0, .int 0, .int 0, .ref (g 70)]))]) (w1 := [(qo, .inl (cO, 1, .inr (.inl u_3)))]) hP hD [0, 1] [2] rfl rfl (by decide) (by decide) hk1 hFc hP1 hD1
    have hP : va_P (dC, dI) vwCl [(g 0, .inr (13, [.ref (g 1), .int 0, .int 0, .int 0, .int 0, .int 0, .int 0, .int 0, .int 0, .int 0, .int (-1), .long 0, .long 0, .ref (g 14), .ref (g 15), .ref (g 16), .ref (g 17), .ref (g 18), .ref (g 19), .ref (g 20), .ref (g 21), .ref (g 22), .ref (g 23), .ref (g 24), .ref (g 25), .ref (g 26), .ref (g 27), .ref (g 28), .ref (g 29), .ref (g 30), .ref (g 31), .ref (g 32), .ref (g 33), .ref (g 34), .ref (g 35), .ref (g 36), .ref (g 37), .ref (g 38), .ref (g 39), .ref (g 40), .ref (g 41), .ref (g 42), .ref (g 43), .ref (g 44), .ref (g 45), .ref (g 46), .ref (g 47), .ref (g 48), .ref (g 49), .ref (g 50), .ref (g 51), .ref (g 52), .ref (g 53), .ref (g 54), .ref (g 55), .ref (g 56), .ref (g 57), .ref (g 58), .ref (g 59), .int 0, .int 0, .int 0, .int 0, .int 0, .int 0, .int 0, .int 0, .int 0, .int 0, .ref (g 70)])), (qo, .inl (cO, 1, .inr (.inl u_3)))] H := hP
    have hD : va_D A [(g 0, .inr (13, [.ref (g 1), .int 0, .int 0, .int 0, .int 0, .int 0, .int 0, .int 0, .int 0, .int 0, .int (-1), .long 0, .long 0, .ref (g 14), .ref (g 15), .ref (g 16), .ref (g 17), .ref (g 18), .ref (g 19), .ref (g 20), .ref (g 21), .ref (g 22), .ref (g 23), .ref (g 24), .ref (g 25), .ref (g 26), .ref (g 27), .ref (g 28), .ref (g 29), .ref (g 30), .ref (g 31), .ref (g 32), .ref (g 33), .ref (g 34), .ref (g 35), .ref (g 36), .ref (g 37), .ref (g 38), .ref (g 39), .ref (g 40), .ref (g 41), .ref (g 42), .ref (g 43), .ref (g 44), .ref (g 45), .ref (g 46), .ref (g 47), .ref (g 48), .ref (g 49), .ref (g 50), .ref (g 51), .ref (g 52), .ref (g 53), .ref (g 54), .ref (g 55), .ref (g 56), .ref (g 57), .ref (g 58), .ref (g 59), .int 0, .int 0, .int 0, .int 0, .int 0, .int 0, .int 0, .int 0, .int 0, .int 0, .ref (g 70)])), (qo, .inl (cO, 1, .inr (.inl u_3)))] := hD
    rcases hw_4 with ⟨hC, rfl⟩ | ⟨hC, rfl, hval⟩
    ·
      refine lv_istore (lv' := [(5, .int 1), (4, .int 0), (3, .ref qo), (2, .ref (g 0)), (1, .ref (h 0)), (0, .ref b)]) hx hb dL_law__1532 hl (by decide) rfl (fun ls hl => ?_)
      refine lv_aload_n hx hb dL_law__1534 rfl (lv_at hl 3 rfl) ?_
      refine lv_aload_n hx hb dL_law__1535 rfl (lv_at hl 5 rfl) ?_
      refine lv_iload hx hb dL_law__1536 (lv_at hl 1 rfl) ?_
      refine lv_iconst (v := 1) hx hb dL_law__1538 (by decide) ?_
      refine lv_iadd hx hb dL_law__1539 ?_
      refine lv_topi (fun x_7 ex_7 => ?_)
      obtain rfl : x_7 = 1 := ex_7.trans (by decide)
      refine va_sld hx hb hX hbl hbA hS (pz_inK (by decide)) dL_law__1540 ?_
      have hPc := hP.sub (ws' := [(g 0, .inr (13, [.ref (g 1), .int 0, .int 0, .int 0, .int 0, .int 0, .int 0, .int 0, .int 0, .int 0, .int (-1), .long 0, .long 0, .ref (g 14), .ref (g 15), .ref (g 16), .ref (g 17), .ref (g 18), .ref (g 19), .ref (g 20), .ref (g 21), .ref (g 22), .ref (g 23), .ref (g 24), .ref (g 25), .ref (g 26), .ref (g 27), .ref (g 28), .ref (g 29), .ref (g 30), .ref (g 31), .ref (g 32), .ref (g 33), .ref (g 34), .ref (g 35), .ref (g 36), .ref (g 37), .ref (g 38), .ref (g 39), .ref (g 40), .ref (g 41), .ref (g 42), .ref (g 43), .ref (g 44), .ref (g 45), .ref (g 46), .ref (g 47), .ref (g 48), .ref (g 49), .ref (g 50), .ref (g 51), .ref (g 52), .ref (g 53), .ref (g 54), .ref (g 55), .ref (g 56), .ref (g 57), .ref (g 58), .ref (g 59), .int 0, .int 0, .int 0, .int 0, .int 0, .int 0, .int 0, .int 0, .int 0, .int 0, .ref (g 70)]))]) [0] rfl
      have hDc := hD.sub (ws' := [(g 0, .inr (13, [.ref (g 1), .int 0, .int 0, .int 0, .int 0, .int 0, .int 0, .int 0, .int 0, .int 0, .int (-1), .long 0, .long 0, .ref (g 14), .ref (g 15), .ref (g 16), .ref (g 17), .ref (g 18), .ref (g 19), .ref (g 20), .ref (g 21), .ref (g 22), .ref (g 23), .ref (g 24), .ref (g 25), .ref (g 26), .ref (g 27), .ref (g 28), .ref (g 29), .ref (g 30), .ref (g 31), .ref (g 32), .ref (g 33), .ref (g 34), .ref (g 35), .ref (g 36), .ref (g 37), .ref (g 38), .ref (g 39), .ref (g 40), .ref (g 41), .ref (g 42), .ref (g 43), .ref (g 44), .ref (g 45), .ref (g 46), .ref (g 47), .ref (g 48), .ref (g 49), .ref (g 50), .ref (g 51), .ref (g 52), .ref (g 53), .ref (g 54), .ref (g 55), .ref (g 56), .ref (g 57), .ref (g 58), .ref (g 59), .int 0, .int 0, .int 0, .int 0, .int 0, .int 0, .int 0, .int 0, .int 0, .int 0, .ref (g 70)]))]) [0] (by decide) rfl
      have hKc := hK.sub (tys' := []) [] rfl
      have hFc := va_free (wc := [(g 0, .inr (13, [.ref (g 1), .int 0, .int 0, .int 0, .int 0, .int 0, .int 0, .int 0, .int 0, .int 0, .int (-1), .long 0, .long 0, .ref (g 14), .ref (g 15), .ref (g 16), .ref (g 17), .ref (g 18), .ref (g 19), .ref (g 20), .ref (g 21), .ref (g 22), .ref (g 23), .ref (g 24), .ref (g 25), .ref (g 26), .ref (g 27), .ref (g 28), .ref (g 29), .ref (g 30), .ref (g 31), .ref (g 32), .ref (g 33), .ref (g 34), .ref (g 35), .ref (g 36), .ref (g 37), .ref (g 38), .ref (g 39), .ref (g 40), .ref (g 41), .ref (g 42), .ref (g 43), .ref (g 44), .ref (g 45), .ref (g 46), .ref (g 47), .ref (g 48), .ref (g 49), .ref (g 50), .ref (g 51), .ref (g 52), .ref (g 53), .ref (g 54), .ref (g 55), .ref (g 56), .ref (g 57), .ref (g 58), .ref (g 59), .int 0, .int 0, .int 0, .int 0, .int 0, .int 0, .int 0, .int 0, .int 0, .int 0, .ref (g 70)]))]) hD hS hA [0] rfl
      refine va_calll (va_runV (As := [.int (xs (Int32.toNatClampNeg 1))]) (rest := []) ⟨hx, hb, hml, hown, hts⟩ (c_X12_waters l hlt e0 dC dI H.size g (xs (Int32.toNatClampNeg 1))) (cwV 1 hts gL_law__X12_waters rfl rfl rfl (by decide +kernel) ⟨Nat.le_of_ble_eq_true rfl, Nat.le_of_ble_eq_true rfl⟩) (pz_preV [.int (xs (Int32.toNatClampNeg 1))] hPc hDc hKc hZ hV hT hS hFc (va_recv hKc hPc (ci := 13) (q0 := 0) rfl rfl)) rfl rfl hl.1 rfl (lv_room (Nat.le_of_ble_eq_true rfl)) dL_law__1541 ⟨Nat.le_of_ble_eq_true rfl, Nat.le_of_ble_eq_true rfl⟩) hS (fun q _ h => hFc q h) hFc (fun r_8 u_9 t H locs ht hvm hw_10 hB_11 hz1 hk1 hS => ?_)
      obtain ⟨hP1, hD1⟩ := hB_11
      rw [ht] at hP1
      obtain ⟨hP, hD⟩ := va_join (wr := [(qo, .inl (cO, 1, .inr (.inl u_3)))]) (w1 := [(g 0, .inr (13, u_9))]) hP hD [0] [1] rfl rfl (by decide) (by decide) hk1 hFc hP1 hD1
      have hP : va_P (dC, dI) vwCl [(qo, .inl (cO, 1, .inr (.inl u_3))), (g 0, .inr (13, u_9))] H := hP
      have hD : va_D A [(qo, .inl (cO, 1, .inr (.inl u_3))), (g 0, .inr (13, u_9))] := hD
      rcases hw_10 with ⟨hC2, hfs⟩ | ⟨hC2, hfs, rfl⟩
      ·
        refine lv_lstore (lv' := [(6, .long r_8), (5, .int 1), (4, .int 0), (3, .ref qo), (2, .ref (g 0)), (1, .ref (h 0)), (0, .ref b)]) hx hb dL_law__1544 hl (by decide) rfl (fun ls hl => ?_)
        refine lv_aload_n hx hb dL_law__1546 rfl (lv_at hl 4 rfl) ?_
        have hPc := hP.sub (ws' := [(g 0, .inr (13, u_9))]) [1] rfl
        have hDc := hD.sub (ws' := [(g 0, .inr (13, u_9))]) [1] (by decide) rfl
        have hKc := hK.sub (tys' := []) [] rfl
        have hFc := va_free (wc := [(g 0, .inr (13, u_9))]) hD hS hA [1] rfl
        refine va_calli (va_runV (As := []) (rest := []) ⟨hx, hb, hml, hown, hts⟩ (c_X12_thrown l hlt e0 dC dI H.size (g 0) u_9 1 hfs) (cwV 0 hts gL_law__X12_thrown rfl rfl rfl (by decide +kernel) ⟨Nat.le_of_ble_eq_true rfl, Nat.le_of_ble_eq_true rfl⟩) (pz_preV [] hPc hDc hKc hZ hV hT hS hFc (va_recv hKc hPc (ci := 13) (q0 := 0) rfl rfl)) rfl rfl hl.1 rfl (lv_room (Nat.le_of_ble_eq_true rfl)) dL_law__1547 ⟨Nat.le_of_ble_eq_true rfl, Nat.le_of_ble_eq_true rfl⟩) hS (fun q _ h => hFc q h) hFc (fun r_12 u_13 t H locs ht hvm hw_14 hB_15 hz1 hk1 hS => ?_)
        obtain ⟨hP, hD⟩ := pz_rest (wr := [(qo, .inl (cO, 1, .inr (.inl u_3)))]) hP hD [1] [0] rfl rfl (by decide) (by decide) hk1 hFc
        subst hw_14
        refine lv_iload hx hb dL_law__1550 (lv_at hl 1 rfl) ?_
        refine lv_icmp_eq (tgt := 1557) hx hb dL_law__1552 (by decide) (fun c_16 => ?_) (fun c_16 => ?_)
        rotate_left
        · exact absurd c_16 (by decide)
        refine lv_iload hx hb dL_law__1557 (lv_at hl 1 rfl) ?_
        refine lv_if_ne (tgt := 1573) hx hb dL_law__1559 (by decide) (fun c_17 => ?_) (fun c_17 => ?_)
        rotate_left
        · exact absurd c_17 (by decide)
        refine lv_goto (tgt := 1743) hx hb dL_law__1573 (by decide) ?_
        exact lc_end l C0 (Nat.le_of_ble_eq_true rfl) (Nat.le_of_ble_eq_true rfl) hAe hS ls (lv_sub hl [2, 6] rfl)
      ·
        exact absurd hC hC2
    ·
      refine lv_istore (lv' := [(5, .int 0), (4, .int 0), (3, .ref qo), (2, .ref (g 0)), (1, .ref (h 0)), (0, .ref b)]) hx hb dL_law__1532 hl (by decide) rfl (fun ls hl => ?_)
      refine lv_aload_n hx hb dL_law__1534 rfl (lv_at hl 3 rfl) ?_
      refine lv_aload_n hx hb dL_law__1535 rfl (lv_at hl 5 rfl) ?_
      refine lv_iload hx hb dL_law__1536 (lv_at hl 1 rfl) ?_
      refine lv_iconst (v := 1) hx hb dL_law__1538 (by decide) ?_
      refine lv_iadd hx hb dL_law__1539 ?_
      refine lv_topi (fun x_18 ex_18 => ?_)
      obtain rfl : x_18 = 1 := ex_18.trans (by decide)
      refine va_sld hx hb hX hbl hbA hS (pz_inK (by decide)) dL_law__1540 ?_
      have hPc := hP.sub (ws' := [(g 0, .inr (13, [.ref (g 1), .int 0, .int 0, .int 0, .int 0, .int 0, .int 0, .int 0, .int 0, .int 0, .int (-1), .long 0, .long 0, .ref (g 14), .ref (g 15), .ref (g 16), .ref (g 17), .ref (g 18), .ref (g 19), .ref (g 20), .ref (g 21), .ref (g 22), .ref (g 23), .ref (g 24), .ref (g 25), .ref (g 26), .ref (g 27), .ref (g 28), .ref (g 29), .ref (g 30), .ref (g 31), .ref (g 32), .ref (g 33), .ref (g 34), .ref (g 35), .ref (g 36), .ref (g 37), .ref (g 38), .ref (g 39), .ref (g 40), .ref (g 41), .ref (g 42), .ref (g 43), .ref (g 44), .ref (g 45), .ref (g 46), .ref (g 47), .ref (g 48), .ref (g 49), .ref (g 50), .ref (g 51), .ref (g 52), .ref (g 53), .ref (g 54), .ref (g 55), .ref (g 56), .ref (g 57), .ref (g 58), .ref (g 59), .int 0, .int 0, .int 0, .int 0, .int 0, .int 0, .int 0, .int 0, .int 0, .int 0, .ref (g 70)]))]) [0] rfl
      have hDc := hD.sub (ws' := [(g 0, .inr (13, [.ref (g 1), .int 0, .int 0, .int 0, .int 0, .int 0, .int 0, .int 0, .int 0, .int 0, .int (-1), .long 0, .long 0, .ref (g 14), .ref (g 15), .ref (g 16), .ref (g 17), .ref (g 18), .ref (g 19), .ref (g 20), .ref (g 21), .ref (g 22), .ref (g 23), .ref (g 24), .ref (g 25), .ref (g 26), .ref (g 27), .ref (g 28), .ref (g 29), .ref (g 30), .ref (g 31), .ref (g 32), .ref (g 33), .ref (g 34), .ref (g 35), .ref (g 36), .ref (g 37), .ref (g 38), .ref (g 39), .ref (g 40), .ref (g 41), .ref (g 42), .ref (g 43), .ref (g 44), .ref (g 45), .ref (g 46), .ref (g 47), .ref (g 48), .ref (g 49), .ref (g 50), .ref (g 51), .ref (g 52), .ref (g 53), .ref (g 54), .ref (g 55), .ref (g 56), .ref (g 57), .ref (g 58), .ref (g 59), .int 0, .int 0, .int 0, .int 0, .int 0, .int 0, .int 0, .int 0, .int 0, .int 0, .ref (g 70)]))]) [0] (by decide) rfl
      have hKc := hK.sub (tys' := []) [] rfl
      have hFc := va_free (wc := [(g 0, .inr (13, [.ref (g 1), .int 0, .int 0, .int 0, .int 0, .int 0, .int 0, .int 0, .int 0, .int 0, .int (-1), .long 0, .long 0, .ref (g 14), .ref (g 15), .ref (g 16), .ref (g 17), .ref (g 18), .ref (g 19), .ref (g 20), .ref (g 21), .ref (g 22), .ref (g 23), .ref (g 24), .ref (g 25), .ref (g 26), .ref (g 27), .ref (g 28), .ref (g 29), .ref (g 30), .ref (g 31), .ref (g 32), .ref (g 33), .ref (g 34), .ref (g 35), .ref (g 36), .ref (g 37), .ref (g 38), .ref (g 39), .ref (g 40), .ref (g 41), .ref (g 42), .ref (g 43), .ref (g 44), .ref (g 45), .ref (g 46), .ref (g 47), .ref (g 48), .ref (g 49), .ref (g 50), .ref (g 51), .ref (g 52), .ref (g 53), .ref (g 54), .ref (g 55), .ref (g 56), .ref (g 57), .ref (g 58), .ref (g 59), .int 0, .int 0, .int 0, .int 0, .int 0, .int 0, .int 0, .int 0, .int 0, .int 0, .ref (g 70)]))]) hD hS hA [0] rfl
      refine va_calll (va_runV (As := [.int (xs (Int32.toNatClampNeg 1))]) (rest := []) ⟨hx, hb, hml, hown, hts⟩ (c_X12_waters l hlt e0 dC dI H.size g (xs (Int32.toNatClampNeg 1))) (cwV 1 hts gL_law__X12_waters rfl rfl rfl (by decide +kernel) ⟨Nat.le_of_ble_eq_true rfl, Nat.le_of_ble_eq_true rfl⟩) (pz_preV [.int (xs (Int32.toNatClampNeg 1))] hPc hDc hKc hZ hV hT hS hFc (va_recv hKc hPc (ci := 13) (q0 := 0) rfl rfl)) rfl rfl hl.1 rfl (lv_room (Nat.le_of_ble_eq_true rfl)) dL_law__1541 ⟨Nat.le_of_ble_eq_true rfl, Nat.le_of_ble_eq_true rfl⟩) hS (fun q _ h => hFc q h) hFc (fun r_19 u_20 t H locs ht hvm hw_21 hB_22 hz1 hk1 hS => ?_)
      obtain ⟨hP1, hD1⟩ := hB_22
      rw [ht] at hP1
      obtain ⟨hP, hD⟩ := va_join (wr := [(qo, .inl (cO, 1, .inr (.inl u_3)))]) (w1 := [(g 0, .inr (13, u_20))]) hP hD [0] [1] rfl rfl (by decide) (by decide) hk1 hFc hP1 hD1
      have hP : va_P (dC, dI) vwCl [(qo, .inl (cO, 1, .inr (.inl u_3))), (g 0, .inr (13, u_20))] H := hP
      have hD : va_D A [(qo, .inl (cO, 1, .inr (.inl u_3))), (g 0, .inr (13, u_20))] := hD
      rcases hw_21 with ⟨hC2, hfs⟩ | ⟨hC2, hfs, rfl⟩
      ·
        exact absurd hC2 hC
      ·
        refine lv_lstore (lv' := [(6, .long 0), (5, .int 0), (4, .int 0), (3, .ref qo), (2, .ref (g 0)), (1, .ref (h 0)), (0, .ref b)]) hx hb dL_law__1544 hl (by decide) rfl (fun ls hl => ?_)
        refine lv_aload_n hx hb dL_law__1546 rfl (lv_at hl 4 rfl) ?_
        have hPc := hP.sub (ws' := [(g 0, .inr (13, u_20))]) [1] rfl
        have hDc := hD.sub (ws' := [(g 0, .inr (13, u_20))]) [1] (by decide) rfl
        have hKc := hK.sub (tys' := []) [] rfl
        have hFc := va_free (wc := [(g 0, .inr (13, u_20))]) hD hS hA [1] rfl
        refine va_calli (va_runV (As := []) (rest := []) ⟨hx, hb, hml, hown, hts⟩ (c_X12_thrown l hlt e0 dC dI H.size (g 0) u_20 0 hfs) (cwV 0 hts gL_law__X12_thrown rfl rfl rfl (by decide +kernel) ⟨Nat.le_of_ble_eq_true rfl, Nat.le_of_ble_eq_true rfl⟩) (pz_preV [] hPc hDc hKc hZ hV hT hS hFc (va_recv hKc hPc (ci := 13) (q0 := 0) rfl rfl)) rfl rfl hl.1 rfl (lv_room (Nat.le_of_ble_eq_true rfl)) dL_law__1547 ⟨Nat.le_of_ble_eq_true rfl, Nat.le_of_ble_eq_true rfl⟩) hS (fun q _ h => hFc q h) hFc (fun r_23 u_24 t H locs ht hvm hw_25 hB_26 hz1 hk1 hS => ?_)
        obtain ⟨hP, hD⟩ := pz_rest (wr := [(qo, .inl (cO, 1, .inr (.inl u_3)))]) hP hD [1] [0] rfl rfl (by decide) (by decide) hk1 hFc
        subst hw_25
        refine lv_iload hx hb dL_law__1550 (lv_at hl 1 rfl) ?_
        refine lv_icmp_eq (tgt := 1557) hx hb dL_law__1552 (by decide) (fun c_27 => ?_) (fun c_27 => ?_)
        rotate_left
        · exact absurd c_27 (by decide)
        refine lv_iload hx hb dL_law__1557 (lv_at hl 1 rfl) ?_
        refine lv_if_ne (tgt := 1573) hx hb dL_law__1559 (by decide) (fun c_28 => ?_) (fun c_28 => ?_)
        · exact absurd c_28 (by decide)
        refine lv_aload_n hx hb dL_law__1562 rfl (lv_at hl 3 rfl) ?_
        refine lv_iconst (v := 0) hx hb dL_law__1563 (by decide) ?_
        refine va_lald hx hb hK hP 0 0 rfl rfl (pz_inK (by decide)) dL_law__1564 ?_
        rw [hval]
        refine lv_lload hx hb dL_law__1565 (lv_at hl 0 rfl) ?_
        refine W.lcmp hx hb dL_law__1567 ?_
        refine lv_topi (fun x_29 ex_29 => ?_)
        obtain rfl : x_29 = 0 := ex_29.trans (by decide)
        refine lv_if_eq (tgt := 1573) hx hb dL_law__1568 (by decide) (fun c_30 => ?_) (fun c_30 => ?_)
        rotate_left
        · exact absurd c_30 (by decide)
        refine lv_goto (tgt := 1743) hx hb dL_law__1573 (by decide) ?_
        exact lc_end l C0 (Nat.le_of_ble_eq_true rfl) (Nat.le_of_ble_eq_true rfl) hAe hS ls (lv_sub hl [2, 6] rfl)
set_option maxHeartbeats 8000000 in
set_option maxRecDepth 100000 in
/-- the law's case 21: board -/
theorem lc_board {p : Program} {e : Env} {s : State} {m : MethodId} {below : List Frame} {meth : Method} {c : Code} (l : Launch) (hlt : l.stackTraces = false) {b : Nat} {xs : Nat → Int32} (C0 : lw_At p s m meth c b 6 xs) (e0 : Nat) (dC : Nat → ClassId) (dI : Nat → Nat → Nat) (h g : Nat → Nat) (ca cb : Nat → ClassId) (qo : Nat) (cO : ClassId) (fo : Nat → Int64) {A : Nat → Prop} (hAe : (fun q : Nat => s.heap.size ≤ q) = A) {H : Heap} {locs : List Loc} (hK : va_K (dC, dI) vwCl [(cO, .long)] s) (hP : va_P (dC, dI) vwCl [(h 0, .inr (12, [.ref (h 1), .ref (h 2), .ref (h 3), .ref (h 4), .ref (h 5), .ref (h 6), .ref (h 8), .ref (h 12), .ref (h 11), .int 0, .int 0, .int (-1), .long 0, .long 0])), (h 2, .inr (0, [.int 0, .ref e0, .int 0])), (qo, .inl (cO, 1, .inr (.inl fo))), (g 0, .inr (13, [.ref (g 1), .int 0, .int 0, .int 0, .int 0, .int 0, .int 0, .int 0, .int 0, .int 0, .int (-1), .long 0, .long 0, .ref (g 14), .ref (g 15), .ref (g 16), .ref (g 17), .ref (g 18), .ref (g 19), .ref (g 20), .ref (g 21), .ref (g 22), .ref (g 23), .ref (g 24), .ref (g 25), .ref (g 26), .ref (g 27), .ref (g 28), .ref (g 29), .ref (g 30), .ref (g 31), .ref (g 32), .ref (g 33), .ref (g 34), .ref (g 35), .ref (g 36), .ref (g 37), .ref (g 38), .ref (g 39), .ref (g 40), .ref (g 41), .ref (g 42), .ref (g 43), .ref (g 44), .ref (g 45), .ref (g 46), .ref (g 47), .ref (g 48), .ref (g 49), .ref (g 50), .ref (g 51), .ref (g 52), .ref (g 53), .ref (g 54), .ref (g 55), .ref (g 56), .ref (g 57), .ref (g 58), .ref (g 59), .int 0, .int 0, .int 0, .int 0, .int 0, .int 0, .int 0, .int 0, .int 0, .int 0, .ref (g 70)]))] H) (hD : va_D A [(h 0, .inr (12, [.ref (h 1), .ref (h 2), .ref (h 3), .ref (h 4), .ref (h 5), .ref (h 6), .ref (h 8), .ref (h 12), .ref (h 11), .int 0, .int 0, .int (-1), .long 0, .long 0])), (h 2, .inr (0, [.int 0, .ref e0, .int 0])), (qo, .inl (cO, 1, .inr (.inl fo))), (g 0, .inr (13, [.ref (g 1), .int 0, .int 0, .int 0, .int 0, .int 0, .int 0, .int 0, .int 0, .int 0, .int (-1), .long 0, .long 0, .ref (g 14), .ref (g 15), .ref (g 16), .ref (g 17), .ref (g 18), .ref (g 19), .ref (g 20), .ref (g 21), .ref (g 22), .ref (g 23), .ref (g 24), .ref (g 25), .ref (g 26), .ref (g 27), .ref (g 28), .ref (g 29), .ref (g 30), .ref (g 31), .ref (g 32), .ref (g 33), .ref (g 34), .ref (g 35), .ref (g 36), .ref (g 37), .ref (g 38), .ref (g 39), .ref (g 40), .ref (g 41), .ref (g 42), .ref (g 43), .ref (g 44), .ref (g 45), .ref (g 46), .ref (g 47), .ref (g 48), .ref (g 49), .ref (g 50), .ref (g 51), .ref (g 52), .ref (g 53), .ref (g 54), .ref (g 55), .ref (g 56), .ref (g 57), .ref (g 58), .ref (g 59), .int 0, .int 0, .int 0, .int 0, .int 0, .int 0, .int 0, .int 0, .int 0, .int 0, .ref (g 70)]))]) (hS : va_S A s.heap H locs) (hZ : pz_s e0 A s s.heap) (hV : pz_v s) (hT : pz_t A s s.heap) (ls : Array Slot) (hl : lv_has ls 8 [(4, .int 0), (3, .ref qo), (2, .ref (g 0)), (1, .ref (h 0)), (0, .ref b)]) : W p l e room_1 s m #[Value.ref b] below meth c H locs 300 100000 (lw_Z below #[Value.ref b] s) (F0 m 1576 ls []) := by
  obtain ⟨hx, hb, hr, hml, hown, hts, hX, hbl, hlocks, hgv⟩ := id C0
  have hown : s.vm.findClass RL = some m.cls := hown
  have hts := fun w h => hts w (wsL_law__in w h)
  have hA : ∀ q : Nat, s.heap.size ≤ q → A q := fun q h => by rw [← hAe]; exact h
  have hbA : ¬ A b := by rw [← hAe]; exact Nat.not_le.mpr hbl
  refine lv_aload_n hx hb dL_law__1576 rfl (lv_at hl 3 rfl) ?_
  refine lv_aload_n hx hb dL_law__1577 rfl (lv_at hl 4 rfl) ?_
  refine lv_iload hx hb dL_law__1578 (lv_at hl 0 rfl) ?_
  refine lv_iconst (v := 1) hx hb dL_law__1580 (by decide) ?_
  refine lv_iadd hx hb dL_law__1581 ?_
  refine lv_topi (fun x_1 ex_1 => ?_)
  obtain rfl : x_1 = 1 := ex_1.trans (by decide)
  refine va_sld hx hb hX hbl hbA hS (pz_inK (by decide)) dL_law__1582 ?_
  refine lv_aload_n hx hb dL_law__1583 rfl (lv_at hl 1 rfl) ?_
  have hPc := hP.sub (ws' := [(h 0, .inr (12, [.ref (h 1), .ref (h 2), .ref (h 3), .ref (h 4), .ref (h 5), .ref (h 6), .ref (h 8), .ref (h 12), .ref (h 11), .int 0, .int 0, .int (-1), .long 0, .long 0])), (h 2, .inr (0, [.int 0, .ref e0, .int 0])), (qo, .inl (cO, 1, .inr (.inl fo)))]) [0, 1, 2] rfl
  have hDc := hD.sub (ws' := [(h 0, .inr (12, [.ref (h 1), .ref (h 2), .ref (h 3), .ref (h 4), .ref (h 5), .ref (h 6), .ref (h 8), .ref (h 12), .ref (h 11), .int 0, .int 0, .int (-1), .long 0, .long 0])), (h 2, .inr (0, [.int 0, .ref e0, .int 0])), (qo, .inl (cO, 1, .inr (.inl fo)))]) [0, 1, 2] (by decide) rfl
  have hKc := hK.sub (tys' := [(cO, .long)]) [0] rfl
  have hFc := va_free (wc := [(h 0, .inr (12, [.ref (h 1), .ref (h 2), .ref (h 3), .ref (h 4), .ref (h 5), .ref (h 6), .ref (h 8), .ref (h 12), .ref (h 11), .int 0, .int 0, .int (-1), .long 0, .long 0])), (h 2, .inr (0, [.int 0, .ref e0, .int 0])), (qo, .inl (cO, 1, .inr (.inl fo)))]) hD hS hA [0, 1, 2] rfl
  refine vx_calli (vx_runSX (As := [.ref (h 0), .int (xs (Int32.toNatClampNeg 1)), .ref qo]) (rest := []) ⟨hx, hb, hml, hown, hts⟩ (c_L_board l hlt e0 dC dI H.size h qo cO fo (xs (Int32.toNatClampNeg 1))) (vx_cwSW 3 hts gL_law__L_board rfl rfl rfl (by decide +kernel) ⟨Nat.le_of_ble_eq_true rfl, Nat.le_of_ble_eq_true rfl⟩) (pz_preS [.ref (h 0), .int (xs (Int32.toNatClampNeg 1)), .ref qo] hPc hDc hKc hZ hV hT hS hFc) rfl rfl hl.1 rfl (lv_room (Nat.le_of_ble_eq_true rfl)) dL_law__1584 ⟨Nat.le_of_ble_eq_true rfl, Nat.le_of_ble_eq_true rfl⟩) hS (fun q _ h => hFc q h) hFc (fun q _ h => hFc q h) (fun E ce qx_6 u_3 t H locs ht hvm hpx hE hz1 hk1 hS hce hcv hcl => ?_) (fun r_2 u_3 t H locs ht hvm hw_4 hB_5 hz1 hk1 hS => ?_)
  ·
    exact hpx.elim
  ·
    obtain ⟨hP, hD⟩ := pz_rest (wr := [(g 0, .inr (13, [.ref (g 1), .int 0, .int 0, .int 0, .int 0, .int 0, .int 0, .int 0, .int 0, .int 0, .int (-1), .long 0, .long 0, .ref (g 14), .ref (g 15), .ref (g 16), .ref (g 17), .ref (g 18), .ref (g 19), .ref (g 20), .ref (g 21), .ref (g 22), .ref (g 23), .ref (g 24), .ref (g 25), .ref (g 26), .ref (g 27), .ref (g 28), .ref (g 29), .ref (g 30), .ref (g 31), .ref (g 32), .ref (g 33), .ref (g 34), .ref (g 35), .ref (g 36), .ref (g 37), .ref (g 38), .ref (g 39), .ref (g 40), .ref (g 41), .ref (g 42), .ref (g 43), .ref (g 44), .ref (g 45), .ref (g 46), .ref (g 47), .ref (g 48), .ref (g 49), .ref (g 50), .ref (g 51), .ref (g 52), .ref (g 53), .ref (g 54), .ref (g 55), .ref (g 56), .ref (g 57), .ref (g 58), .ref (g 59), .int 0, .int 0, .int 0, .int 0, .int 0, .int 0, .int 0, .int 0, .int 0, .int 0, .ref (g 70)]))]) hP hD [0, 1, 2] [3] rfl rfl (by decide) (by decide) hk1 hFc
    subst hw_4
    refine lv_istore (lv' := [(5, .int 1), (4, .int 0), (3, .ref qo), (2, .ref (g 0)), (1, .ref (h 0)), (0, .ref b)]) hx hb dL_law__1587 hl (by decide) rfl (fun ls hl => ?_)
    refine lv_aload_n hx hb dL_law__1589 rfl (lv_at hl 3 rfl) ?_
    refine lv_aload_n hx hb dL_law__1590 rfl (lv_at hl 5 rfl) ?_
    refine lv_iload hx hb dL_law__1591 (lv_at hl 1 rfl) ?_
    refine lv_iconst (v := 1) hx hb dL_law__1593 (by decide) ?_
    refine lv_iadd hx hb dL_law__1594 ?_
    refine lv_topi (fun x_7 ex_7 => ?_)
    obtain rfl : x_7 = 1 := ex_7.trans (by decide)
    refine va_sld hx hb hX hbl hbA hS (pz_inK (by decide)) dL_law__1595 ?_
    have hPc := hP.sub (ws' := [(g 0, .inr (13, [.ref (g 1), .int 0, .int 0, .int 0, .int 0, .int 0, .int 0, .int 0, .int 0, .int 0, .int (-1), .long 0, .long 0, .ref (g 14), .ref (g 15), .ref (g 16), .ref (g 17), .ref (g 18), .ref (g 19), .ref (g 20), .ref (g 21), .ref (g 22), .ref (g 23), .ref (g 24), .ref (g 25), .ref (g 26), .ref (g 27), .ref (g 28), .ref (g 29), .ref (g 30), .ref (g 31), .ref (g 32), .ref (g 33), .ref (g 34), .ref (g 35), .ref (g 36), .ref (g 37), .ref (g 38), .ref (g 39), .ref (g 40), .ref (g 41), .ref (g 42), .ref (g 43), .ref (g 44), .ref (g 45), .ref (g 46), .ref (g 47), .ref (g 48), .ref (g 49), .ref (g 50), .ref (g 51), .ref (g 52), .ref (g 53), .ref (g 54), .ref (g 55), .ref (g 56), .ref (g 57), .ref (g 58), .ref (g 59), .int 0, .int 0, .int 0, .int 0, .int 0, .int 0, .int 0, .int 0, .int 0, .int 0, .ref (g 70)]))]) [0] rfl
    have hDc := hD.sub (ws' := [(g 0, .inr (13, [.ref (g 1), .int 0, .int 0, .int 0, .int 0, .int 0, .int 0, .int 0, .int 0, .int 0, .int (-1), .long 0, .long 0, .ref (g 14), .ref (g 15), .ref (g 16), .ref (g 17), .ref (g 18), .ref (g 19), .ref (g 20), .ref (g 21), .ref (g 22), .ref (g 23), .ref (g 24), .ref (g 25), .ref (g 26), .ref (g 27), .ref (g 28), .ref (g 29), .ref (g 30), .ref (g 31), .ref (g 32), .ref (g 33), .ref (g 34), .ref (g 35), .ref (g 36), .ref (g 37), .ref (g 38), .ref (g 39), .ref (g 40), .ref (g 41), .ref (g 42), .ref (g 43), .ref (g 44), .ref (g 45), .ref (g 46), .ref (g 47), .ref (g 48), .ref (g 49), .ref (g 50), .ref (g 51), .ref (g 52), .ref (g 53), .ref (g 54), .ref (g 55), .ref (g 56), .ref (g 57), .ref (g 58), .ref (g 59), .int 0, .int 0, .int 0, .int 0, .int 0, .int 0, .int 0, .int 0, .int 0, .int 0, .ref (g 70)]))]) [0] (by decide) rfl
    have hKc := hK.sub (tys' := []) [] rfl
    have hFc := va_free (wc := [(g 0, .inr (13, [.ref (g 1), .int 0, .int 0, .int 0, .int 0, .int 0, .int 0, .int 0, .int 0, .int 0, .int (-1), .long 0, .long 0, .ref (g 14), .ref (g 15), .ref (g 16), .ref (g 17), .ref (g 18), .ref (g 19), .ref (g 20), .ref (g 21), .ref (g 22), .ref (g 23), .ref (g 24), .ref (g 25), .ref (g 26), .ref (g 27), .ref (g 28), .ref (g 29), .ref (g 30), .ref (g 31), .ref (g 32), .ref (g 33), .ref (g 34), .ref (g 35), .ref (g 36), .ref (g 37), .ref (g 38), .ref (g 39), .ref (g 40), .ref (g 41), .ref (g 42), .ref (g 43), .ref (g 44), .ref (g 45), .ref (g 46), .ref (g 47), .ref (g 48), .ref (g 49), .ref (g 50), .ref (g 51), .ref (g 52), .ref (g 53), .ref (g 54), .ref (g 55), .ref (g 56), .ref (g 57), .ref (g 58), .ref (g 59), .int 0, .int 0, .int 0, .int 0, .int 0, .int 0, .int 0, .int 0, .int 0, .int 0, .ref (g 70)]))]) hD hS hA [0] rfl
    refine va_calli (va_runV (As := [.int (xs (Int32.toNatClampNeg 1))]) (rest := []) ⟨hx, hb, hml, hown, hts⟩ (c_X12_board l hlt e0 dC dI H.size g (xs (Int32.toNatClampNeg 1))) (cwV 1 hts gL_law__X12_board rfl rfl rfl (by decide +kernel) ⟨Nat.le_of_ble_eq_true rfl, Nat.le_of_ble_eq_true rfl⟩) (pz_preV [.int (xs (Int32.toNatClampNeg 1))] hPc hDc hKc hZ hV hT hS hFc (va_recv hKc hPc (ci := 13) (q0 := 0) rfl rfl)) rfl rfl hl.1 rfl (lv_room (Nat.le_of_ble_eq_true rfl)) dL_law__1596 ⟨Nat.le_of_ble_eq_true rfl, Nat.le_of_ble_eq_true rfl⟩) hS (fun q _ h => hFc q h) hFc (fun r_8 u_9 t H locs ht hvm hw_10 hB_11 hz1 hk1 hS => ?_)
    obtain ⟨hP1, hD1⟩ := hB_11
    rw [ht] at hP1
    obtain ⟨hP, hD⟩ := va_join (wr := []) (w1 := [(g 0, .inr (13, u_9))]) hP hD [0] [] rfl rfl (by decide) (by decide) hk1 hFc hP1 hD1
    have hP : va_P (dC, dI) vwCl [(g 0, .inr (13, u_9))] H := hP
    have hD : va_D A [(g 0, .inr (13, u_9))] := hD
    refine lv_istore (lv' := [(6, .int r_8), (5, .int 1), (4, .int 0), (3, .ref qo), (2, .ref (g 0)), (1, .ref (h 0)), (0, .ref b)]) hx hb dL_law__1599 hl (by decide) rfl (fun ls hl => ?_)
    refine lv_aload_n hx hb dL_law__1601 rfl (lv_at hl 4 rfl) ?_
    have hPc := hP.sub (ws' := [(g 0, .inr (13, u_9))]) [0] rfl
    have hDc := hD.sub (ws' := [(g 0, .inr (13, u_9))]) [0] (by decide) rfl
    have hKc := hK.sub (tys' := []) [] rfl
    have hFc := va_free (wc := [(g 0, .inr (13, u_9))]) hD hS hA [0] rfl
    refine va_calli (va_runV (As := []) (rest := []) ⟨hx, hb, hml, hown, hts⟩ (c_X12_thrown l hlt e0 dC dI H.size (g 0) u_9 1 hw_10) (cwV 0 hts gL_law__X12_thrown rfl rfl rfl (by decide +kernel) ⟨Nat.le_of_ble_eq_true rfl, Nat.le_of_ble_eq_true rfl⟩) (pz_preV [] hPc hDc hKc hZ hV hT hS hFc (va_recv hKc hPc (ci := 13) (q0 := 0) rfl rfl)) rfl rfl hl.1 rfl (lv_room (Nat.le_of_ble_eq_true rfl)) dL_law__1602 ⟨Nat.le_of_ble_eq_true rfl, Nat.le_of_ble_eq_true rfl⟩) hS (fun q _ h => hFc q h) hFc (fun r_12 u_13 t H locs ht hvm hw_14 hB_15 hz1 hk1 hS => ?_)
    obtain ⟨hP, hD⟩ := pz_rest (wr := []) hP hD [0] [] rfl rfl (by decide) (by decide) hk1 hFc
    subst hw_14
    refine lv_iload hx hb dL_law__1605 (lv_at hl 1 rfl) ?_
    refine lv_icmp_eq (tgt := 1612) hx hb dL_law__1607 (by decide) (fun c_16 => ?_) (fun c_16 => ?_)
    rotate_left
    · exact absurd c_16 (by decide)
    refine lv_iload hx hb dL_law__1612 (lv_at hl 1 rfl) ?_
    refine lv_if_ne (tgt := 1629) hx hb dL_law__1614 (by decide) (fun c_17 => ?_) (fun c_17 => ?_)
    rotate_left
    · exact absurd c_17 (by decide)
    refine lv_goto (tgt := 1743) hx hb dL_law__1629 (by decide) ?_
    exact lc_end l C0 (Nat.le_of_ble_eq_true rfl) (Nat.le_of_ble_eq_true rfl) hAe hS ls (lv_sub hl [2, 6] rfl)
set_option maxHeartbeats 8000000 in
set_option maxRecDepth 100000 in
/-- the law's case 22: paid -/
theorem lc_paid {p : Program} {e : Env} {s : State} {m : MethodId} {below : List Frame} {meth : Method} {c : Code} (l : Launch) (hlt : l.stackTraces = false) {b : Nat} {xs : Nat → Int32} (C0 : lw_At p s m meth c b 6 xs) (e0 : Nat) (dC : Nat → ClassId) (dI : Nat → Nat → Nat) (h g : Nat → Nat) (ca cb : Nat → ClassId) (qo : Nat) (cO : ClassId) (fo : Nat → Int64) {A : Nat → Prop} (hAe : (fun q : Nat => s.heap.size ≤ q) = A) {H : Heap} {locs : List Loc} (hK : va_K (dC, dI) vwCl [(ca 2, .long), (cO, .long), (cb 52, .long)] s) (hP : va_P (dC, dI) vwCl [(h 0, .inr (12, [.ref (h 1), .ref (h 2), .ref (h 3), .ref (h 4), .ref (h 5), .ref (h 6), .ref (h 8), .ref (h 12), .ref (h 11), .int 0, .int 0, .int (-1), .long 0, .long 0])), (h 11, .inl (ca 2, 16, .inr (.inl (fun _ => 0)))), (qo, .inl (cO, 1, .inr (.inl fo))), (g 0, .inr (13, [.ref (g 1), .int 0, .int 0, .int 0, .int 0, .int 0, .int 0, .int 0, .int 0, .int 0, .int (-1), .long 0, .long 0, .ref (g 14), .ref (g 15), .ref (g 16), .ref (g 17), .ref (g 18), .ref (g 19), .ref (g 20), .ref (g 21), .ref (g 22), .ref (g 23), .ref (g 24), .ref (g 25), .ref (g 26), .ref (g 27), .ref (g 28), .ref (g 29), .ref (g 30), .ref (g 31), .ref (g 32), .ref (g 33), .ref (g 34), .ref (g 35), .ref (g 36), .ref (g 37), .ref (g 38), .ref (g 39), .ref (g 40), .ref (g 41), .ref (g 42), .ref (g 43), .ref (g 44), .ref (g 45), .ref (g 46), .ref (g 47), .ref (g 48), .ref (g 49), .ref (g 50), .ref (g 51), .ref (g 52), .ref (g 53), .ref (g 54), .ref (g 55), .ref (g 56), .ref (g 57), .ref (g 58), .ref (g 59), .int 0, .int 0, .int 0, .int 0, .int 0, .int 0, .int 0, .int 0, .int 0, .int 0, .ref (g 70)])), (g 52, .inl (cb 52, 16, .inr (.inl (fun _ => 0))))] H) (hD : va_D A [(h 0, .inr (12, [.ref (h 1), .ref (h 2), .ref (h 3), .ref (h 4), .ref (h 5), .ref (h 6), .ref (h 8), .ref (h 12), .ref (h 11), .int 0, .int 0, .int (-1), .long 0, .long 0])), (h 11, .inl (ca 2, 16, .inr (.inl (fun _ => 0)))), (qo, .inl (cO, 1, .inr (.inl fo))), (g 0, .inr (13, [.ref (g 1), .int 0, .int 0, .int 0, .int 0, .int 0, .int 0, .int 0, .int 0, .int 0, .int (-1), .long 0, .long 0, .ref (g 14), .ref (g 15), .ref (g 16), .ref (g 17), .ref (g 18), .ref (g 19), .ref (g 20), .ref (g 21), .ref (g 22), .ref (g 23), .ref (g 24), .ref (g 25), .ref (g 26), .ref (g 27), .ref (g 28), .ref (g 29), .ref (g 30), .ref (g 31), .ref (g 32), .ref (g 33), .ref (g 34), .ref (g 35), .ref (g 36), .ref (g 37), .ref (g 38), .ref (g 39), .ref (g 40), .ref (g 41), .ref (g 42), .ref (g 43), .ref (g 44), .ref (g 45), .ref (g 46), .ref (g 47), .ref (g 48), .ref (g 49), .ref (g 50), .ref (g 51), .ref (g 52), .ref (g 53), .ref (g 54), .ref (g 55), .ref (g 56), .ref (g 57), .ref (g 58), .ref (g 59), .int 0, .int 0, .int 0, .int 0, .int 0, .int 0, .int 0, .int 0, .int 0, .int 0, .ref (g 70)])), (g 52, .inl (cb 52, 16, .inr (.inl (fun _ => 0))))]) (hS : va_S A s.heap H locs) (hZ : pz_s e0 A s s.heap) (hV : pz_v s) (hT : pz_t A s s.heap) (ls : Array Slot) (hl : lv_has ls 8 [(4, .int 0), (3, .ref qo), (2, .ref (g 0)), (1, .ref (h 0)), (0, .ref b)]) : W p l e room_1 s m #[Value.ref b] below meth c H locs 300 100000 (lw_Z below #[Value.ref b] s) (F0 m 1632 ls []) := by
  obtain ⟨hx, hb, hr, hml, hown, hts, hX, hbl, hlocks, hgv⟩ := id C0
  have hown : s.vm.findClass RL = some m.cls := hown
  have hts := fun w h => hts w (wsL_law__in w h)
  have hA : ∀ q : Nat, s.heap.size ≤ q → A q := fun q h => by rw [← hAe]; exact h
  have hbA : ¬ A b := by rw [← hAe]; exact Nat.not_le.mpr hbl
  refine lv_aload_n hx hb dL_law__1632 rfl (lv_at hl 3 rfl) ?_
  refine lv_aload_n hx hb dL_law__1633 rfl (lv_at hl 4 rfl) ?_
  refine lv_iload hx hb dL_law__1634 (lv_at hl 0 rfl) ?_
  refine lv_iconst (v := 1) hx hb dL_law__1636 (by decide) ?_
  refine lv_iadd hx hb dL_law__1637 ?_
  refine lv_topi (fun x_1 ex_1 => ?_)
  obtain rfl : x_1 = 1 := ex_1.trans (by decide)
  refine va_sld hx hb hX hbl hbA hS (pz_inK (by decide)) dL_law__1638 ?_
  refine lv_aload_n hx hb dL_law__1639 rfl (lv_at hl 1 rfl) ?_
  have hPc := hP.sub (ws' := [(h 0, .inr (12, [.ref (h 1), .ref (h 2), .ref (h 3), .ref (h 4), .ref (h 5), .ref (h 6), .ref (h 8), .ref (h 12), .ref (h 11), .int 0, .int 0, .int (-1), .long 0, .long 0])), (h 11, .inl (ca 2, 16, .inr (.inl (fun _ => 0)))), (qo, .inl (cO, 1, .inr (.inl fo)))]) [0, 1, 2] rfl
  have hDc := hD.sub (ws' := [(h 0, .inr (12, [.ref (h 1), .ref (h 2), .ref (h 3), .ref (h 4), .ref (h 5), .ref (h 6), .ref (h 8), .ref (h 12), .ref (h 11), .int 0, .int 0, .int (-1), .long 0, .long 0])), (h 11, .inl (ca 2, 16, .inr (.inl (fun _ => 0)))), (qo, .inl (cO, 1, .inr (.inl fo)))]) [0, 1, 2] (by decide) rfl
  have hKc := hK.sub (tys' := [(ca 2, .long), (cO, .long)]) [0, 1] rfl
  have hFc := va_free (wc := [(h 0, .inr (12, [.ref (h 1), .ref (h 2), .ref (h 3), .ref (h 4), .ref (h 5), .ref (h 6), .ref (h 8), .ref (h 12), .ref (h 11), .int 0, .int 0, .int (-1), .long 0, .long 0])), (h 11, .inl (ca 2, 16, .inr (.inl (fun _ => 0)))), (qo, .inl (cO, 1, .inr (.inl fo)))]) hD hS hA [0, 1, 2] rfl
  refine vx_calli (vx_runSX (As := [.ref (h 0), .int (xs (Int32.toNatClampNeg 1)), .ref qo]) (rest := []) ⟨hx, hb, hml, hown, hts⟩ (c_L_paid l hlt e0 dC dI H.size h ca qo cO fo (xs (Int32.toNatClampNeg 1))) (vx_cwSW 3 hts gL_law__L_paid rfl rfl rfl (by decide +kernel) ⟨Nat.le_of_ble_eq_true rfl, Nat.le_of_ble_eq_true rfl⟩) (pz_preS [.ref (h 0), .int (xs (Int32.toNatClampNeg 1)), .ref qo] hPc hDc hKc hZ hV hT hS hFc) rfl rfl hl.1 rfl (lv_room (Nat.le_of_ble_eq_true rfl)) dL_law__1640 ⟨Nat.le_of_ble_eq_true rfl, Nat.le_of_ble_eq_true rfl⟩) hS (fun q _ h => hFc q h) hFc (fun q _ h => hFc q h) (fun E ce qx_6 u_3 t H locs ht hvm hpx hE hz1 hk1 hS hce hcv hcl => ?_) (fun r_2 u_3 t H locs ht hvm hw_4 hB_5 hz1 hk1 hS => ?_)
  ·
    exact hpx.elim
  ·
    obtain ⟨hP1, hD1⟩ := hB_5
    rw [ht] at hP1
    obtain ⟨hP, hD⟩ := va_join (wr := [(g 0, .inr (13, [.ref (g 1), .int 0, .int 0, .int 0, .int 0, .int 0, .int 0, .int 0, .int 0, .int 0, .int (-1), .long 0, .long 0, .ref (g 14), .ref (g 15), .ref (g 16), .ref (g 17), .ref (g 18), .ref (g 19), .ref (g 20), .ref (g 21), .ref (g 22), .ref (g 23), .ref (g 24), .ref (g 25), .ref (g 26), .ref (g 27), .ref (g 28), .ref (g 29), .ref (g 30), .ref (g 31), .ref (g 32), .ref (g 33), .ref (g 34), .ref (g 35), .ref (g 36), .ref (g 37), .ref (g 38), .ref (g 39), .ref (g 40), .ref (g 41), .ref (g 42), .ref (g 43), .ref (g 44), .ref (g 45), .ref (g 46), .ref (g 47), .ref (g 48), .ref (g 49), .ref (g 50), .ref (g 51), .ref (g 52), .ref (g 53), .ref (g 54), .ref (g 55), .ref (g 56), .ref (g 57), .ref (g 58), .ref (g 59), .int 0, .int 0, .int 0, .int 0, .int 0, .int 0, .int 0, .int 0, .int 0, .int 0, .ref (g 70)])), (g 52, .inl (cb 52, 16, .inr (.inl (fun _ => 0))))]) (w1 := [(qo, .inl (cO, 1, .inr (.inl u_3)))]) hP hD [0, 1, 2] [3, 4] rfl rfl (by decide) (by decide) hk1 hFc hP1 hD1
    have hP : va_P (dC, dI) vwCl [(g 0, .inr (13, [.ref (g 1), .int 0, .int 0, .int 0, .int 0, .int 0, .int 0, .int 0, .int 0, .int 0, .int (-1), .long 0, .long 0, .ref (g 14), .ref (g 15), .ref (g 16), .ref (g 17), .ref (g 18), .ref (g 19), .ref (g 20), .ref (g 21), .ref (g 22), .ref (g 23), .ref (g 24), .ref (g 25), .ref (g 26), .ref (g 27), .ref (g 28), .ref (g 29), .ref (g 30), .ref (g 31), .ref (g 32), .ref (g 33), .ref (g 34), .ref (g 35), .ref (g 36), .ref (g 37), .ref (g 38), .ref (g 39), .ref (g 40), .ref (g 41), .ref (g 42), .ref (g 43), .ref (g 44), .ref (g 45), .ref (g 46), .ref (g 47), .ref (g 48), .ref (g 49), .ref (g 50), .ref (g 51), .ref (g 52), .ref (g 53), .ref (g 54), .ref (g 55), .ref (g 56), .ref (g 57), .ref (g 58), .ref (g 59), .int 0, .int 0, .int 0, .int 0, .int 0, .int 0, .int 0, .int 0, .int 0, .int 0, .ref (g 70)])), (g 52, .inl (cb 52, 16, .inr (.inl (fun _ => 0)))), (qo, .inl (cO, 1, .inr (.inl u_3)))] H := hP
    have hD : va_D A [(g 0, .inr (13, [.ref (g 1), .int 0, .int 0, .int 0, .int 0, .int 0, .int 0, .int 0, .int 0, .int 0, .int (-1), .long 0, .long 0, .ref (g 14), .ref (g 15), .ref (g 16), .ref (g 17), .ref (g 18), .ref (g 19), .ref (g 20), .ref (g 21), .ref (g 22), .ref (g 23), .ref (g 24), .ref (g 25), .ref (g 26), .ref (g 27), .ref (g 28), .ref (g 29), .ref (g 30), .ref (g 31), .ref (g 32), .ref (g 33), .ref (g 34), .ref (g 35), .ref (g 36), .ref (g 37), .ref (g 38), .ref (g 39), .ref (g 40), .ref (g 41), .ref (g 42), .ref (g 43), .ref (g 44), .ref (g 45), .ref (g 46), .ref (g 47), .ref (g 48), .ref (g 49), .ref (g 50), .ref (g 51), .ref (g 52), .ref (g 53), .ref (g 54), .ref (g 55), .ref (g 56), .ref (g 57), .ref (g 58), .ref (g 59), .int 0, .int 0, .int 0, .int 0, .int 0, .int 0, .int 0, .int 0, .int 0, .int 0, .ref (g 70)])), (g 52, .inl (cb 52, 16, .inr (.inl (fun _ => 0)))), (qo, .inl (cO, 1, .inr (.inl u_3)))] := hD
    rcases hw_4 with ⟨hC, rfl⟩ | ⟨hC, rfl, hval⟩
    ·
      refine lv_istore (lv' := [(5, .int 1), (4, .int 0), (3, .ref qo), (2, .ref (g 0)), (1, .ref (h 0)), (0, .ref b)]) hx hb dL_law__1643 hl (by decide) rfl (fun ls hl => ?_)
      refine lv_aload_n hx hb dL_law__1645 rfl (lv_at hl 3 rfl) ?_
      refine lv_aload_n hx hb dL_law__1646 rfl (lv_at hl 5 rfl) ?_
      refine lv_iload hx hb dL_law__1647 (lv_at hl 1 rfl) ?_
      refine lv_iconst (v := 1) hx hb dL_law__1649 (by decide) ?_
      refine lv_iadd hx hb dL_law__1650 ?_
      refine lv_topi (fun x_7 ex_7 => ?_)
      obtain rfl : x_7 = 1 := ex_7.trans (by decide)
      refine va_sld hx hb hX hbl hbA hS (pz_inK (by decide)) dL_law__1651 ?_
      have hPc := hP.sub (ws' := [(g 0, .inr (13, [.ref (g 1), .int 0, .int 0, .int 0, .int 0, .int 0, .int 0, .int 0, .int 0, .int 0, .int (-1), .long 0, .long 0, .ref (g 14), .ref (g 15), .ref (g 16), .ref (g 17), .ref (g 18), .ref (g 19), .ref (g 20), .ref (g 21), .ref (g 22), .ref (g 23), .ref (g 24), .ref (g 25), .ref (g 26), .ref (g 27), .ref (g 28), .ref (g 29), .ref (g 30), .ref (g 31), .ref (g 32), .ref (g 33), .ref (g 34), .ref (g 35), .ref (g 36), .ref (g 37), .ref (g 38), .ref (g 39), .ref (g 40), .ref (g 41), .ref (g 42), .ref (g 43), .ref (g 44), .ref (g 45), .ref (g 46), .ref (g 47), .ref (g 48), .ref (g 49), .ref (g 50), .ref (g 51), .ref (g 52), .ref (g 53), .ref (g 54), .ref (g 55), .ref (g 56), .ref (g 57), .ref (g 58), .ref (g 59), .int 0, .int 0, .int 0, .int 0, .int 0, .int 0, .int 0, .int 0, .int 0, .int 0, .ref (g 70)])), (g 52, .inl (cb 52, 16, .inr (.inl (fun _ => 0))))]) [0, 1] rfl
      have hDc := hD.sub (ws' := [(g 0, .inr (13, [.ref (g 1), .int 0, .int 0, .int 0, .int 0, .int 0, .int 0, .int 0, .int 0, .int 0, .int (-1), .long 0, .long 0, .ref (g 14), .ref (g 15), .ref (g 16), .ref (g 17), .ref (g 18), .ref (g 19), .ref (g 20), .ref (g 21), .ref (g 22), .ref (g 23), .ref (g 24), .ref (g 25), .ref (g 26), .ref (g 27), .ref (g 28), .ref (g 29), .ref (g 30), .ref (g 31), .ref (g 32), .ref (g 33), .ref (g 34), .ref (g 35), .ref (g 36), .ref (g 37), .ref (g 38), .ref (g 39), .ref (g 40), .ref (g 41), .ref (g 42), .ref (g 43), .ref (g 44), .ref (g 45), .ref (g 46), .ref (g 47), .ref (g 48), .ref (g 49), .ref (g 50), .ref (g 51), .ref (g 52), .ref (g 53), .ref (g 54), .ref (g 55), .ref (g 56), .ref (g 57), .ref (g 58), .ref (g 59), .int 0, .int 0, .int 0, .int 0, .int 0, .int 0, .int 0, .int 0, .int 0, .int 0, .ref (g 70)])), (g 52, .inl (cb 52, 16, .inr (.inl (fun _ => 0))))]) [0, 1] (by decide) rfl
      have hKc := hK.sub (tys' := [(cb 52, .long)]) [2] rfl
      have hFc := va_free (wc := [(g 0, .inr (13, [.ref (g 1), .int 0, .int 0, .int 0, .int 0, .int 0, .int 0, .int 0, .int 0, .int 0, .int (-1), .long 0, .long 0, .ref (g 14), .ref (g 15), .ref (g 16), .ref (g 17), .ref (g 18), .ref (g 19), .ref (g 20), .ref (g 21), .ref (g 22), .ref (g 23), .ref (g 24), .ref (g 25), .ref (g 26), .ref (g 27), .ref (g 28), .ref (g 29), .ref (g 30), .ref (g 31), .ref (g 32), .ref (g 33), .ref (g 34), .ref (g 35), .ref (g 36), .ref (g 37), .ref (g 38), .ref (g 39), .ref (g 40), .ref (g 41), .ref (g 42), .ref (g 43), .ref (g 44), .ref (g 45), .ref (g 46), .ref (g 47), .ref (g 48), .ref (g 49), .ref (g 50), .ref (g 51), .ref (g 52), .ref (g 53), .ref (g 54), .ref (g 55), .ref (g 56), .ref (g 57), .ref (g 58), .ref (g 59), .int 0, .int 0, .int 0, .int 0, .int 0, .int 0, .int 0, .int 0, .int 0, .int 0, .ref (g 70)])), (g 52, .inl (cb 52, 16, .inr (.inl (fun _ => 0))))]) hD hS hA [0, 1] rfl
      refine va_calll (va_runV (As := [.int (xs (Int32.toNatClampNeg 1))]) (rest := []) ⟨hx, hb, hml, hown, hts⟩ (c_X12_paid l hlt e0 dC dI H.size g cb (xs (Int32.toNatClampNeg 1))) (cwV 1 hts gL_law__X12_paid rfl rfl rfl (by decide +kernel) ⟨Nat.le_of_ble_eq_true rfl, Nat.le_of_ble_eq_true rfl⟩) (pz_preV [.int (xs (Int32.toNatClampNeg 1))] hPc hDc hKc hZ hV hT hS hFc (va_recv hKc hPc (ci := 13) (q0 := 0) rfl rfl)) rfl rfl hl.1 rfl (lv_room (Nat.le_of_ble_eq_true rfl)) dL_law__1652 ⟨Nat.le_of_ble_eq_true rfl, Nat.le_of_ble_eq_true rfl⟩) hS (fun q _ h => hFc q h) hFc (fun r_8 u_9 t H locs ht hvm hw_10 hB_11 hz1 hk1 hS => ?_)
      obtain ⟨hP1, hD1⟩ := hB_11
      rw [ht] at hP1
      obtain ⟨hP, hD⟩ := va_join (wr := [(qo, .inl (cO, 1, .inr (.inl u_3)))]) (w1 := [(g 0, .inr (13, u_9))]) hP hD [0, 1] [2] rfl rfl (by decide) (by decide) hk1 hFc hP1 hD1
      have hP : va_P (dC, dI) vwCl [(qo, .inl (cO, 1, .inr (.inl u_3))), (g 0, .inr (13, u_9))] H := hP
      have hD : va_D A [(qo, .inl (cO, 1, .inr (.inl u_3))), (g 0, .inr (13, u_9))] := hD
      rcases hw_10 with ⟨hC2, hfs⟩ | ⟨hC2, hfs, rfl⟩
      ·
        refine lv_lstore (lv' := [(6, .long r_8), (5, .int 1), (4, .int 0), (3, .ref qo), (2, .ref (g 0)), (1, .ref (h 0)), (0, .ref b)]) hx hb dL_law__1655 hl (by decide) rfl (fun ls hl => ?_)
        refine lv_aload_n hx hb dL_law__1657 rfl (lv_at hl 4 rfl) ?_
        have hPc := hP.sub (ws' := [(g 0, .inr (13, u_9))]) [1] rfl
        have hDc := hD.sub (ws' := [(g 0, .inr (13, u_9))]) [1] (by decide) rfl
        have hKc := hK.sub (tys' := []) [] rfl
        have hFc := va_free (wc := [(g 0, .inr (13, u_9))]) hD hS hA [1] rfl
        refine va_calli (va_runV (As := []) (rest := []) ⟨hx, hb, hml, hown, hts⟩ (c_X12_thrown l hlt e0 dC dI H.size (g 0) u_9 1 hfs) (cwV 0 hts gL_law__X12_thrown rfl rfl rfl (by decide +kernel) ⟨Nat.le_of_ble_eq_true rfl, Nat.le_of_ble_eq_true rfl⟩) (pz_preV [] hPc hDc hKc hZ hV hT hS hFc (va_recv hKc hPc (ci := 13) (q0 := 0) rfl rfl)) rfl rfl hl.1 rfl (lv_room (Nat.le_of_ble_eq_true rfl)) dL_law__1658 ⟨Nat.le_of_ble_eq_true rfl, Nat.le_of_ble_eq_true rfl⟩) hS (fun q _ h => hFc q h) hFc (fun r_12 u_13 t H locs ht hvm hw_14 hB_15 hz1 hk1 hS => ?_)
        obtain ⟨hP, hD⟩ := pz_rest (wr := [(qo, .inl (cO, 1, .inr (.inl u_3)))]) hP hD [1] [0] rfl rfl (by decide) (by decide) hk1 hFc
        subst hw_14
        refine lv_iload hx hb dL_law__1661 (lv_at hl 1 rfl) ?_
        refine lv_icmp_eq (tgt := 1668) hx hb dL_law__1663 (by decide) (fun c_16 => ?_) (fun c_16 => ?_)
        rotate_left
        · exact absurd c_16 (by decide)
        refine lv_iload hx hb dL_law__1668 (lv_at hl 1 rfl) ?_
        refine lv_if_ne (tgt := 1684) hx hb dL_law__1670 (by decide) (fun c_17 => ?_) (fun c_17 => ?_)
        rotate_left
        · exact absurd c_17 (by decide)
        refine lv_goto (tgt := 1743) hx hb dL_law__1684 (by decide) ?_
        exact lc_end l C0 (Nat.le_of_ble_eq_true rfl) (Nat.le_of_ble_eq_true rfl) hAe hS ls (lv_sub hl [2, 6] rfl)
      ·
        exact absurd hC hC2
    ·
      refine lv_istore (lv' := [(5, .int 0), (4, .int 0), (3, .ref qo), (2, .ref (g 0)), (1, .ref (h 0)), (0, .ref b)]) hx hb dL_law__1643 hl (by decide) rfl (fun ls hl => ?_)
      refine lv_aload_n hx hb dL_law__1645 rfl (lv_at hl 3 rfl) ?_
      refine lv_aload_n hx hb dL_law__1646 rfl (lv_at hl 5 rfl) ?_
      refine lv_iload hx hb dL_law__1647 (lv_at hl 1 rfl) ?_
      refine lv_iconst (v := 1) hx hb dL_law__1649 (by decide) ?_
      refine lv_iadd hx hb dL_law__1650 ?_
      refine lv_topi (fun x_18 ex_18 => ?_)
      obtain rfl : x_18 = 1 := ex_18.trans (by decide)
      refine va_sld hx hb hX hbl hbA hS (pz_inK (by decide)) dL_law__1651 ?_
      have hPc := hP.sub (ws' := [(g 0, .inr (13, [.ref (g 1), .int 0, .int 0, .int 0, .int 0, .int 0, .int 0, .int 0, .int 0, .int 0, .int (-1), .long 0, .long 0, .ref (g 14), .ref (g 15), .ref (g 16), .ref (g 17), .ref (g 18), .ref (g 19), .ref (g 20), .ref (g 21), .ref (g 22), .ref (g 23), .ref (g 24), .ref (g 25), .ref (g 26), .ref (g 27), .ref (g 28), .ref (g 29), .ref (g 30), .ref (g 31), .ref (g 32), .ref (g 33), .ref (g 34), .ref (g 35), .ref (g 36), .ref (g 37), .ref (g 38), .ref (g 39), .ref (g 40), .ref (g 41), .ref (g 42), .ref (g 43), .ref (g 44), .ref (g 45), .ref (g 46), .ref (g 47), .ref (g 48), .ref (g 49), .ref (g 50), .ref (g 51), .ref (g 52), .ref (g 53), .ref (g 54), .ref (g 55), .ref (g 56), .ref (g 57), .ref (g 58), .ref (g 59), .int 0, .int 0, .int 0, .int 0, .int 0, .int 0, .int 0, .int 0, .int 0, .int 0, .ref (g 70)])), (g 52, .inl (cb 52, 16, .inr (.inl (fun _ => 0))))]) [0, 1] rfl
      have hDc := hD.sub (ws' := [(g 0, .inr (13, [.ref (g 1), .int 0, .int 0, .int 0, .int 0, .int 0, .int 0, .int 0, .int 0, .int 0, .int (-1), .long 0, .long 0, .ref (g 14), .ref (g 15), .ref (g 16), .ref (g 17), .ref (g 18), .ref (g 19), .ref (g 20), .ref (g 21), .ref (g 22), .ref (g 23), .ref (g 24), .ref (g 25), .ref (g 26), .ref (g 27), .ref (g 28), .ref (g 29), .ref (g 30), .ref (g 31), .ref (g 32), .ref (g 33), .ref (g 34), .ref (g 35), .ref (g 36), .ref (g 37), .ref (g 38), .ref (g 39), .ref (g 40), .ref (g 41), .ref (g 42), .ref (g 43), .ref (g 44), .ref (g 45), .ref (g 46), .ref (g 47), .ref (g 48), .ref (g 49), .ref (g 50), .ref (g 51), .ref (g 52), .ref (g 53), .ref (g 54), .ref (g 55), .ref (g 56), .ref (g 57), .ref (g 58), .ref (g 59), .int 0, .int 0, .int 0, .int 0, .int 0, .int 0, .int 0, .int 0, .int 0, .int 0, .ref (g 70)])), (g 52, .inl (cb 52, 16, .inr (.inl (fun _ => 0))))]) [0, 1] (by decide) rfl
      have hKc := hK.sub (tys' := [(cb 52, .long)]) [2] rfl
      have hFc := va_free (wc := [(g 0, .inr (13, [.ref (g 1), .int 0, .int 0, .int 0, .int 0, .int 0, .int 0, .int 0, .int 0, .int 0, .int (-1), .long 0, .long 0, .ref (g 14), .ref (g 15), .ref (g 16), .ref (g 17), .ref (g 18), .ref (g 19), .ref (g 20), .ref (g 21), .ref (g 22), .ref (g 23), .ref (g 24), .ref (g 25), .ref (g 26), .ref (g 27), .ref (g 28), .ref (g 29), .ref (g 30), .ref (g 31), .ref (g 32), .ref (g 33), .ref (g 34), .ref (g 35), .ref (g 36), .ref (g 37), .ref (g 38), .ref (g 39), .ref (g 40), .ref (g 41), .ref (g 42), .ref (g 43), .ref (g 44), .ref (g 45), .ref (g 46), .ref (g 47), .ref (g 48), .ref (g 49), .ref (g 50), .ref (g 51), .ref (g 52), .ref (g 53), .ref (g 54), .ref (g 55), .ref (g 56), .ref (g 57), .ref (g 58), .ref (g 59), .int 0, .int 0, .int 0, .int 0, .int 0, .int 0, .int 0, .int 0, .int 0, .int 0, .ref (g 70)])), (g 52, .inl (cb 52, 16, .inr (.inl (fun _ => 0))))]) hD hS hA [0, 1] rfl
      refine va_calll (va_runV (As := [.int (xs (Int32.toNatClampNeg 1))]) (rest := []) ⟨hx, hb, hml, hown, hts⟩ (c_X12_paid l hlt e0 dC dI H.size g cb (xs (Int32.toNatClampNeg 1))) (cwV 1 hts gL_law__X12_paid rfl rfl rfl (by decide +kernel) ⟨Nat.le_of_ble_eq_true rfl, Nat.le_of_ble_eq_true rfl⟩) (pz_preV [.int (xs (Int32.toNatClampNeg 1))] hPc hDc hKc hZ hV hT hS hFc (va_recv hKc hPc (ci := 13) (q0 := 0) rfl rfl)) rfl rfl hl.1 rfl (lv_room (Nat.le_of_ble_eq_true rfl)) dL_law__1652 ⟨Nat.le_of_ble_eq_true rfl, Nat.le_of_ble_eq_true rfl⟩) hS (fun q _ h => hFc q h) hFc (fun r_19 u_20 t H locs ht hvm hw_21 hB_22 hz1 hk1 hS => ?_)
      obtain ⟨hP1, hD1⟩ := hB_22
      rw [ht] at hP1
      obtain ⟨hP, hD⟩ := va_join (wr := [(qo, .inl (cO, 1, .inr (.inl u_3)))]) (w1 := [(g 0, .inr (13, u_20))]) hP hD [0, 1] [2] rfl rfl (by decide) (by decide) hk1 hFc hP1 hD1
      have hP : va_P (dC, dI) vwCl [(qo, .inl (cO, 1, .inr (.inl u_3))), (g 0, .inr (13, u_20))] H := hP
      have hD : va_D A [(qo, .inl (cO, 1, .inr (.inl u_3))), (g 0, .inr (13, u_20))] := hD
      rcases hw_21 with ⟨hC2, hfs⟩ | ⟨hC2, hfs, rfl⟩
      ·
        exact absurd hC2 hC
      ·
        refine lv_lstore (lv' := [(6, .long 0), (5, .int 0), (4, .int 0), (3, .ref qo), (2, .ref (g 0)), (1, .ref (h 0)), (0, .ref b)]) hx hb dL_law__1655 hl (by decide) rfl (fun ls hl => ?_)
        refine lv_aload_n hx hb dL_law__1657 rfl (lv_at hl 4 rfl) ?_
        have hPc := hP.sub (ws' := [(g 0, .inr (13, u_20))]) [1] rfl
        have hDc := hD.sub (ws' := [(g 0, .inr (13, u_20))]) [1] (by decide) rfl
        have hKc := hK.sub (tys' := []) [] rfl
        have hFc := va_free (wc := [(g 0, .inr (13, u_20))]) hD hS hA [1] rfl
        refine va_calli (va_runV (As := []) (rest := []) ⟨hx, hb, hml, hown, hts⟩ (c_X12_thrown l hlt e0 dC dI H.size (g 0) u_20 0 hfs) (cwV 0 hts gL_law__X12_thrown rfl rfl rfl (by decide +kernel) ⟨Nat.le_of_ble_eq_true rfl, Nat.le_of_ble_eq_true rfl⟩) (pz_preV [] hPc hDc hKc hZ hV hT hS hFc (va_recv hKc hPc (ci := 13) (q0 := 0) rfl rfl)) rfl rfl hl.1 rfl (lv_room (Nat.le_of_ble_eq_true rfl)) dL_law__1658 ⟨Nat.le_of_ble_eq_true rfl, Nat.le_of_ble_eq_true rfl⟩) hS (fun q _ h => hFc q h) hFc (fun r_23 u_24 t H locs ht hvm hw_25 hB_26 hz1 hk1 hS => ?_)
        obtain ⟨hP, hD⟩ := pz_rest (wr := [(qo, .inl (cO, 1, .inr (.inl u_3)))]) hP hD [1] [0] rfl rfl (by decide) (by decide) hk1 hFc
        subst hw_25
        refine lv_iload hx hb dL_law__1661 (lv_at hl 1 rfl) ?_
        refine lv_icmp_eq (tgt := 1668) hx hb dL_law__1663 (by decide) (fun c_27 => ?_) (fun c_27 => ?_)
        rotate_left
        · exact absurd c_27 (by decide)
        refine lv_iload hx hb dL_law__1668 (lv_at hl 1 rfl) ?_
        refine lv_if_ne (tgt := 1684) hx hb dL_law__1670 (by decide) (fun c_28 => ?_) (fun c_28 => ?_)
        · exact absurd c_28 (by decide)
        refine lv_aload_n hx hb dL_law__1673 rfl (lv_at hl 3 rfl) ?_
        refine lv_iconst (v := 0) hx hb dL_law__1674 (by decide) ?_
        refine va_lald hx hb hK hP 0 1 rfl rfl (pz_inK (by decide)) dL_law__1675 ?_
        rw [hval]
        refine lv_lload hx hb dL_law__1676 (lv_at hl 0 rfl) ?_
        refine W.lcmp hx hb dL_law__1678 ?_
        refine lv_topi (fun x_29 ex_29 => ?_)
        obtain rfl : x_29 = 0 := ex_29.trans (by decide)
        refine lv_if_eq (tgt := 1684) hx hb dL_law__1679 (by decide) (fun c_30 => ?_) (fun c_30 => ?_)
        rotate_left
        · exact absurd c_30 (by decide)
        refine lv_goto (tgt := 1743) hx hb dL_law__1684 (by decide) ?_
        exact lc_end l C0 (Nat.le_of_ble_eq_true rfl) (Nat.le_of_ble_eq_true rfl) hAe hS ls (lv_sub hl [2, 6] rfl)
set_option maxHeartbeats 8000000 in
set_option maxRecDepth 100000 in
/-- the law's case 23: count -/
theorem lc_count {p : Program} {e : Env} {s : State} {m : MethodId} {below : List Frame} {meth : Method} {c : Code} (l : Launch) (hlt : l.stackTraces = false) {b : Nat} {xs : Nat → Int32} (C0 : lw_At p s m meth c b 6 xs) (e0 : Nat) (dC : Nat → ClassId) (dI : Nat → Nat → Nat) (h g : Nat → Nat) (ca cb : Nat → ClassId) (qo : Nat) (cO : ClassId) (fo : Nat → Int64) {A : Nat → Prop} (hAe : (fun q : Nat => s.heap.size ≤ q) = A) {H : Heap} {locs : List Loc} (hK : va_K (dC, dI) vwCl [(cO, .long), (cb 34, .boolean), (cb 35, .boolean)] s) (hP : va_P (dC, dI) vwCl [(h 0, .inr (12, [.ref (h 1), .ref (h 2), .ref (h 3), .ref (h 4), .ref (h 5), .ref (h 6), .ref (h 8), .ref (h 12), .ref (h 11), .int 0, .int 0, .int (-1), .long 0, .long 0])), (h 1, .inr (0, [.int 0, .ref e0, .int 0])), (h 2, .inr (0, [.int 0, .ref e0, .int 0])), (h 3, .inr (0, [.int 0, .ref e0, .int 0])), (h 4, .inr (0, [.int 0, .ref e0, .int 0])), (h 5, .inr (0, [.int 0, .ref e0, .int 0])), (h 6, .inr (10, [.ref (h 7), .int 0])), (qo, .inl (cO, 1, .inr (.inl fo))), (g 0, .inr (13, [.ref (g 1), .int 0, .int 0, .int 0, .int 0, .int 0, .int 0, .int 0, .int 0, .int 0, .int (-1), .long 0, .long 0, .ref (g 14), .ref (g 15), .ref (g 16), .ref (g 17), .ref (g 18), .ref (g 19), .ref (g 20), .ref (g 21), .ref (g 22), .ref (g 23), .ref (g 24), .ref (g 25), .ref (g 26), .ref (g 27), .ref (g 28), .ref (g 29), .ref (g 30), .ref (g 31), .ref (g 32), .ref (g 33), .ref (g 34), .ref (g 35), .ref (g 36), .ref (g 37), .ref (g 38), .ref (g 39), .ref (g 40), .ref (g 41), .ref (g 42), .ref (g 43), .ref (g 44), .ref (g 45), .ref (g 46), .ref (g 47), .ref (g 48), .ref (g 49), .ref (g 50), .ref (g 51), .ref (g 52), .ref (g 53), .ref (g 54), .ref (g 55), .ref (g 56), .ref (g 57), .ref (g 58), .ref (g 59), .int 0, .int 0, .int 0, .int 0, .int 0, .int 0, .int 0, .int 0, .int 0, .int 0, .ref (g 70)])), (g 34, .inl (cb 34, 120, .inl (fun _ => 0))), (g 35, .inl (cb 35, 120, .inl (fun _ => 0)))] H) (hD : va_D A [(h 0, .inr (12, [.ref (h 1), .ref (h 2), .ref (h 3), .ref (h 4), .ref (h 5), .ref (h 6), .ref (h 8), .ref (h 12), .ref (h 11), .int 0, .int 0, .int (-1), .long 0, .long 0])), (h 1, .inr (0, [.int 0, .ref e0, .int 0])), (h 2, .inr (0, [.int 0, .ref e0, .int 0])), (h 3, .inr (0, [.int 0, .ref e0, .int 0])), (h 4, .inr (0, [.int 0, .ref e0, .int 0])), (h 5, .inr (0, [.int 0, .ref e0, .int 0])), (h 6, .inr (10, [.ref (h 7), .int 0])), (qo, .inl (cO, 1, .inr (.inl fo))), (g 0, .inr (13, [.ref (g 1), .int 0, .int 0, .int 0, .int 0, .int 0, .int 0, .int 0, .int 0, .int 0, .int (-1), .long 0, .long 0, .ref (g 14), .ref (g 15), .ref (g 16), .ref (g 17), .ref (g 18), .ref (g 19), .ref (g 20), .ref (g 21), .ref (g 22), .ref (g 23), .ref (g 24), .ref (g 25), .ref (g 26), .ref (g 27), .ref (g 28), .ref (g 29), .ref (g 30), .ref (g 31), .ref (g 32), .ref (g 33), .ref (g 34), .ref (g 35), .ref (g 36), .ref (g 37), .ref (g 38), .ref (g 39), .ref (g 40), .ref (g 41), .ref (g 42), .ref (g 43), .ref (g 44), .ref (g 45), .ref (g 46), .ref (g 47), .ref (g 48), .ref (g 49), .ref (g 50), .ref (g 51), .ref (g 52), .ref (g 53), .ref (g 54), .ref (g 55), .ref (g 56), .ref (g 57), .ref (g 58), .ref (g 59), .int 0, .int 0, .int 0, .int 0, .int 0, .int 0, .int 0, .int 0, .int 0, .int 0, .ref (g 70)])), (g 34, .inl (cb 34, 120, .inl (fun _ => 0))), (g 35, .inl (cb 35, 120, .inl (fun _ => 0)))]) (hS : va_S A s.heap H locs) (hZ : pz_s e0 A s s.heap) (hV : pz_v s) (hT : pz_t A s s.heap) (ls : Array Slot) (hl : lv_has ls 8 [(4, .int 0), (3, .ref qo), (2, .ref (g 0)), (1, .ref (h 0)), (0, .ref b)]) : W p l e room_1 s m #[Value.ref b] below meth c H locs 300 100000 (lw_Z below #[Value.ref b] s) (F0 m 1687 ls []) := by
  obtain ⟨hx, hb, hr, hml, hown, hts, hX, hbl, hlocks, hgv⟩ := id C0
  have hown : s.vm.findClass RL = some m.cls := hown
  have hts := fun w h => hts w (wsL_law__in w h)
  have hA : ∀ q : Nat, s.heap.size ≤ q → A q := fun q h => by rw [← hAe]; exact h
  have hbA : ¬ A b := by rw [← hAe]; exact Nat.not_le.mpr hbl
  refine lv_aload_n hx hb dL_law__1687 rfl (lv_at hl 3 rfl) ?_
  refine lv_aload_n hx hb dL_law__1688 rfl (lv_at hl 4 rfl) ?_
  refine lv_iload hx hb dL_law__1689 (lv_at hl 0 rfl) ?_
  refine lv_iconst (v := 1) hx hb dL_law__1691 (by decide) ?_
  refine lv_iadd hx hb dL_law__1692 ?_
  refine lv_topi (fun x_1 ex_1 => ?_)
  obtain rfl : x_1 = 1 := ex_1.trans (by decide)
  refine va_sld hx hb hX hbl hbA hS (pz_inK (by decide)) dL_law__1693 ?_
  refine lv_aload_n hx hb dL_law__1694 rfl (lv_at hl 1 rfl) ?_
  have hPc := hP.sub (ws' := [(h 0, .inr (12, [.ref (h 1), .ref (h 2), .ref (h 3), .ref (h 4), .ref (h 5), .ref (h 6), .ref (h 8), .ref (h 12), .ref (h 11), .int 0, .int 0, .int (-1), .long 0, .long 0])), (h 1, .inr (0, [.int 0, .ref e0, .int 0])), (h 2, .inr (0, [.int 0, .ref e0, .int 0])), (h 3, .inr (0, [.int 0, .ref e0, .int 0])), (h 4, .inr (0, [.int 0, .ref e0, .int 0])), (h 5, .inr (0, [.int 0, .ref e0, .int 0])), (h 6, .inr (10, [.ref (h 7), .int 0])), (qo, .inl (cO, 1, .inr (.inl fo)))]) [0, 1, 2, 3, 4, 5, 6, 7] rfl
  have hDc := hD.sub (ws' := [(h 0, .inr (12, [.ref (h 1), .ref (h 2), .ref (h 3), .ref (h 4), .ref (h 5), .ref (h 6), .ref (h 8), .ref (h 12), .ref (h 11), .int 0, .int 0, .int (-1), .long 0, .long 0])), (h 1, .inr (0, [.int 0, .ref e0, .int 0])), (h 2, .inr (0, [.int 0, .ref e0, .int 0])), (h 3, .inr (0, [.int 0, .ref e0, .int 0])), (h 4, .inr (0, [.int 0, .ref e0, .int 0])), (h 5, .inr (0, [.int 0, .ref e0, .int 0])), (h 6, .inr (10, [.ref (h 7), .int 0])), (qo, .inl (cO, 1, .inr (.inl fo)))]) [0, 1, 2, 3, 4, 5, 6, 7] (by decide) rfl
  have hKc := hK.sub (tys' := [(cO, .long)]) [0] rfl
  have hFc := va_free (wc := [(h 0, .inr (12, [.ref (h 1), .ref (h 2), .ref (h 3), .ref (h 4), .ref (h 5), .ref (h 6), .ref (h 8), .ref (h 12), .ref (h 11), .int 0, .int 0, .int (-1), .long 0, .long 0])), (h 1, .inr (0, [.int 0, .ref e0, .int 0])), (h 2, .inr (0, [.int 0, .ref e0, .int 0])), (h 3, .inr (0, [.int 0, .ref e0, .int 0])), (h 4, .inr (0, [.int 0, .ref e0, .int 0])), (h 5, .inr (0, [.int 0, .ref e0, .int 0])), (h 6, .inr (10, [.ref (h 7), .int 0])), (qo, .inl (cO, 1, .inr (.inl fo)))]) hD hS hA [0, 1, 2, 3, 4, 5, 6, 7] rfl
  refine vx_calli (vx_runSX (As := [.ref (h 0), .int (xs (Int32.toNatClampNeg 1)), .ref qo]) (rest := []) ⟨hx, hb, hml, hown, hts⟩ (c_L_count l hlt e0 dC dI H.size h qo cO fo (xs (Int32.toNatClampNeg 1))) (vx_cwSW 3 hts gL_law__L_count rfl rfl rfl (by decide +kernel) ⟨Nat.le_of_ble_eq_true rfl, Nat.le_of_ble_eq_true rfl⟩) (pz_preS [.ref (h 0), .int (xs (Int32.toNatClampNeg 1)), .ref qo] hPc hDc hKc hZ hV hT hS hFc) rfl rfl hl.1 rfl (lv_room (Nat.le_of_ble_eq_true rfl)) dL_law__1695 ⟨Nat.le_of_ble_eq_true rfl, Nat.le_of_ble_eq_true rfl⟩) hS (fun q _ h => hFc q h) hFc (fun q _ h => hFc q h) (fun E ce qx_6 u_3 t H locs ht hvm hpx hE hz1 hk1 hS hce hcv hcl => ?_) (fun r_2 u_3 t H locs ht hvm hw_4 hB_5 hz1 hk1 hS => ?_)
  ·
    exact hpx.elim
  ·
    obtain ⟨hP1, hD1⟩ := hB_5
    rw [ht] at hP1
    obtain ⟨hP, hD⟩ := va_join (wr := [(g 0, .inr (13, [.ref (g 1), .int 0, .int 0, .int 0, .int 0, .int 0, .int 0, .int 0, .int 0, .int 0, .int (-1), .long 0, .long 0, .ref (g 14), .ref (g 15), .ref (g 16), .ref (g 17), .ref (g 18), .ref (g 19), .ref (g 20), .ref (g 21), .ref (g 22), .ref (g 23), .ref (g 24), .ref (g 25), .ref (g 26), .ref (g 27), .ref (g 28), .ref (g 29), .ref (g 30), .ref (g 31), .ref (g 32), .ref (g 33), .ref (g 34), .ref (g 35), .ref (g 36), .ref (g 37), .ref (g 38), .ref (g 39), .ref (g 40), .ref (g 41), .ref (g 42), .ref (g 43), .ref (g 44), .ref (g 45), .ref (g 46), .ref (g 47), .ref (g 48), .ref (g 49), .ref (g 50), .ref (g 51), .ref (g 52), .ref (g 53), .ref (g 54), .ref (g 55), .ref (g 56), .ref (g 57), .ref (g 58), .ref (g 59), .int 0, .int 0, .int 0, .int 0, .int 0, .int 0, .int 0, .int 0, .int 0, .int 0, .ref (g 70)])), (g 34, .inl (cb 34, 120, .inl (fun _ => 0))), (g 35, .inl (cb 35, 120, .inl (fun _ => 0)))]) (w1 := [(qo, .inl (cO, 1, .inr (.inl u_3)))]) hP hD [0, 1, 2, 3, 4, 5, 6, 7] [8, 9, 10] rfl rfl (by decide) (by decide) hk1 hFc hP1 hD1
    have hP : va_P (dC, dI) vwCl [(g 0, .inr (13, [.ref (g 1), .int 0, .int 0, .int 0, .int 0, .int 0, .int 0, .int 0, .int 0, .int 0, .int (-1), .long 0, .long 0, .ref (g 14), .ref (g 15), .ref (g 16), .ref (g 17), .ref (g 18), .ref (g 19), .ref (g 20), .ref (g 21), .ref (g 22), .ref (g 23), .ref (g 24), .ref (g 25), .ref (g 26), .ref (g 27), .ref (g 28), .ref (g 29), .ref (g 30), .ref (g 31), .ref (g 32), .ref (g 33), .ref (g 34), .ref (g 35), .ref (g 36), .ref (g 37), .ref (g 38), .ref (g 39), .ref (g 40), .ref (g 41), .ref (g 42), .ref (g 43), .ref (g 44), .ref (g 45), .ref (g 46), .ref (g 47), .ref (g 48), .ref (g 49), .ref (g 50), .ref (g 51), .ref (g 52), .ref (g 53), .ref (g 54), .ref (g 55), .ref (g 56), .ref (g 57), .ref (g 58), .ref (g 59), .int 0, .int 0, .int 0, .int 0, .int 0, .int 0, .int 0, .int 0, .int 0, .int 0, .ref (g 70)])), (g 34, .inl (cb 34, 120, .inl (fun _ => 0))), (g 35, .inl (cb 35, 120, .inl (fun _ => 0))), (qo, .inl (cO, 1, .inr (.inl u_3)))] H := hP
    have hD : va_D A [(g 0, .inr (13, [.ref (g 1), .int 0, .int 0, .int 0, .int 0, .int 0, .int 0, .int 0, .int 0, .int 0, .int (-1), .long 0, .long 0, .ref (g 14), .ref (g 15), .ref (g 16), .ref (g 17), .ref (g 18), .ref (g 19), .ref (g 20), .ref (g 21), .ref (g 22), .ref (g 23), .ref (g 24), .ref (g 25), .ref (g 26), .ref (g 27), .ref (g 28), .ref (g 29), .ref (g 30), .ref (g 31), .ref (g 32), .ref (g 33), .ref (g 34), .ref (g 35), .ref (g 36), .ref (g 37), .ref (g 38), .ref (g 39), .ref (g 40), .ref (g 41), .ref (g 42), .ref (g 43), .ref (g 44), .ref (g 45), .ref (g 46), .ref (g 47), .ref (g 48), .ref (g 49), .ref (g 50), .ref (g 51), .ref (g 52), .ref (g 53), .ref (g 54), .ref (g 55), .ref (g 56), .ref (g 57), .ref (g 58), .ref (g 59), .int 0, .int 0, .int 0, .int 0, .int 0, .int 0, .int 0, .int 0, .int 0, .int 0, .ref (g 70)])), (g 34, .inl (cb 34, 120, .inl (fun _ => 0))), (g 35, .inl (cb 35, 120, .inl (fun _ => 0))), (qo, .inl (cO, 1, .inr (.inl u_3)))] := hD
    rcases hw_4 with ⟨hC, rfl⟩ | ⟨hC, rfl, hval⟩
    ·
      refine lv_istore (lv' := [(5, .int 1), (4, .int 0), (3, .ref qo), (2, .ref (g 0)), (1, .ref (h 0)), (0, .ref b)]) hx hb dL_law__1698 hl (by decide) rfl (fun ls hl => ?_)
      refine lv_aload_n hx hb dL_law__1700 rfl (lv_at hl 3 rfl) ?_
      refine lv_aload_n hx hb dL_law__1701 rfl (lv_at hl 5 rfl) ?_
      refine lv_iload hx hb dL_law__1702 (lv_at hl 1 rfl) ?_
      refine lv_iconst (v := 1) hx hb dL_law__1704 (by decide) ?_
      refine lv_iadd hx hb dL_law__1705 ?_
      refine lv_topi (fun x_7 ex_7 => ?_)
      obtain rfl : x_7 = 1 := ex_7.trans (by decide)
      refine va_sld hx hb hX hbl hbA hS (pz_inK (by decide)) dL_law__1706 ?_
      have hPc := hP.sub (ws' := [(g 0, .inr (13, [.ref (g 1), .int 0, .int 0, .int 0, .int 0, .int 0, .int 0, .int 0, .int 0, .int 0, .int (-1), .long 0, .long 0, .ref (g 14), .ref (g 15), .ref (g 16), .ref (g 17), .ref (g 18), .ref (g 19), .ref (g 20), .ref (g 21), .ref (g 22), .ref (g 23), .ref (g 24), .ref (g 25), .ref (g 26), .ref (g 27), .ref (g 28), .ref (g 29), .ref (g 30), .ref (g 31), .ref (g 32), .ref (g 33), .ref (g 34), .ref (g 35), .ref (g 36), .ref (g 37), .ref (g 38), .ref (g 39), .ref (g 40), .ref (g 41), .ref (g 42), .ref (g 43), .ref (g 44), .ref (g 45), .ref (g 46), .ref (g 47), .ref (g 48), .ref (g 49), .ref (g 50), .ref (g 51), .ref (g 52), .ref (g 53), .ref (g 54), .ref (g 55), .ref (g 56), .ref (g 57), .ref (g 58), .ref (g 59), .int 0, .int 0, .int 0, .int 0, .int 0, .int 0, .int 0, .int 0, .int 0, .int 0, .ref (g 70)])), (g 34, .inl (cb 34, 120, .inl (fun _ => 0))), (g 35, .inl (cb 35, 120, .inl (fun _ => 0)))]) [0, 1, 2] rfl
      have hDc := hD.sub (ws' := [(g 0, .inr (13, [.ref (g 1), .int 0, .int 0, .int 0, .int 0, .int 0, .int 0, .int 0, .int 0, .int 0, .int (-1), .long 0, .long 0, .ref (g 14), .ref (g 15), .ref (g 16), .ref (g 17), .ref (g 18), .ref (g 19), .ref (g 20), .ref (g 21), .ref (g 22), .ref (g 23), .ref (g 24), .ref (g 25), .ref (g 26), .ref (g 27), .ref (g 28), .ref (g 29), .ref (g 30), .ref (g 31), .ref (g 32), .ref (g 33), .ref (g 34), .ref (g 35), .ref (g 36), .ref (g 37), .ref (g 38), .ref (g 39), .ref (g 40), .ref (g 41), .ref (g 42), .ref (g 43), .ref (g 44), .ref (g 45), .ref (g 46), .ref (g 47), .ref (g 48), .ref (g 49), .ref (g 50), .ref (g 51), .ref (g 52), .ref (g 53), .ref (g 54), .ref (g 55), .ref (g 56), .ref (g 57), .ref (g 58), .ref (g 59), .int 0, .int 0, .int 0, .int 0, .int 0, .int 0, .int 0, .int 0, .int 0, .int 0, .ref (g 70)])), (g 34, .inl (cb 34, 120, .inl (fun _ => 0))), (g 35, .inl (cb 35, 120, .inl (fun _ => 0)))]) [0, 1, 2] (by decide) rfl
      have hKc := hK.sub (tys' := [(cb 34, .boolean), (cb 35, .boolean)]) [1, 2] rfl
      have hFc := va_free (wc := [(g 0, .inr (13, [.ref (g 1), .int 0, .int 0, .int 0, .int 0, .int 0, .int 0, .int 0, .int 0, .int 0, .int (-1), .long 0, .long 0, .ref (g 14), .ref (g 15), .ref (g 16), .ref (g 17), .ref (g 18), .ref (g 19), .ref (g 20), .ref (g 21), .ref (g 22), .ref (g 23), .ref (g 24), .ref (g 25), .ref (g 26), .ref (g 27), .ref (g 28), .ref (g 29), .ref (g 30), .ref (g 31), .ref (g 32), .ref (g 33), .ref (g 34), .ref (g 35), .ref (g 36), .ref (g 37), .ref (g 38), .ref (g 39), .ref (g 40), .ref (g 41), .ref (g 42), .ref (g 43), .ref (g 44), .ref (g 45), .ref (g 46), .ref (g 47), .ref (g 48), .ref (g 49), .ref (g 50), .ref (g 51), .ref (g 52), .ref (g 53), .ref (g 54), .ref (g 55), .ref (g 56), .ref (g 57), .ref (g 58), .ref (g 59), .int 0, .int 0, .int 0, .int 0, .int 0, .int 0, .int 0, .int 0, .int 0, .int 0, .ref (g 70)])), (g 34, .inl (cb 34, 120, .inl (fun _ => 0))), (g 35, .inl (cb 35, 120, .inl (fun _ => 0)))]) hD hS hA [0, 1, 2] rfl
      refine va_calli (va_runV (As := [.int (xs (Int32.toNatClampNeg 1))]) (rest := []) ⟨hx, hb, hml, hown, hts⟩ (c_X12_count l hlt e0 dC dI H.size g cb (xs (Int32.toNatClampNeg 1))) (cwV 1 hts gL_law__X12_count rfl rfl rfl (by decide +kernel) ⟨Nat.le_of_ble_eq_true rfl, Nat.le_of_ble_eq_true rfl⟩) (pz_preV [.int (xs (Int32.toNatClampNeg 1))] hPc hDc hKc hZ hV hT hS hFc (va_recv hKc hPc (ci := 13) (q0 := 0) rfl rfl)) rfl rfl hl.1 rfl (lv_room (Nat.le_of_ble_eq_true rfl)) dL_law__1707 ⟨Nat.le_of_ble_eq_true rfl, Nat.le_of_ble_eq_true rfl⟩) hS (fun q _ h => hFc q h) hFc (fun r_8 u_9 t H locs ht hvm hw_10 hB_11 hz1 hk1 hS => ?_)
      obtain ⟨hP1, hD1⟩ := hB_11
      rw [ht] at hP1
      obtain ⟨hP, hD⟩ := va_join (wr := [(qo, .inl (cO, 1, .inr (.inl u_3)))]) (w1 := [(g 0, .inr (13, u_9))]) hP hD [0, 1, 2] [3] rfl rfl (by decide) (by decide) hk1 hFc hP1 hD1
      have hP : va_P (dC, dI) vwCl [(qo, .inl (cO, 1, .inr (.inl u_3))), (g 0, .inr (13, u_9))] H := hP
      have hD : va_D A [(qo, .inl (cO, 1, .inr (.inl u_3))), (g 0, .inr (13, u_9))] := hD
      rcases hw_10 with ⟨hC2, hfs⟩ | ⟨hC2, hfs, rfl⟩
      ·
        refine lv_istore (lv' := [(6, .int r_8), (5, .int 1), (4, .int 0), (3, .ref qo), (2, .ref (g 0)), (1, .ref (h 0)), (0, .ref b)]) hx hb dL_law__1710 hl (by decide) rfl (fun ls hl => ?_)
        refine lv_aload_n hx hb dL_law__1712 rfl (lv_at hl 4 rfl) ?_
        have hPc := hP.sub (ws' := [(g 0, .inr (13, u_9))]) [1] rfl
        have hDc := hD.sub (ws' := [(g 0, .inr (13, u_9))]) [1] (by decide) rfl
        have hKc := hK.sub (tys' := []) [] rfl
        have hFc := va_free (wc := [(g 0, .inr (13, u_9))]) hD hS hA [1] rfl
        refine va_calli (va_runV (As := []) (rest := []) ⟨hx, hb, hml, hown, hts⟩ (c_X12_thrown l hlt e0 dC dI H.size (g 0) u_9 1 hfs) (cwV 0 hts gL_law__X12_thrown rfl rfl rfl (by decide +kernel) ⟨Nat.le_of_ble_eq_true rfl, Nat.le_of_ble_eq_true rfl⟩) (pz_preV [] hPc hDc hKc hZ hV hT hS hFc (va_recv hKc hPc (ci := 13) (q0 := 0) rfl rfl)) rfl rfl hl.1 rfl (lv_room (Nat.le_of_ble_eq_true rfl)) dL_law__1713 ⟨Nat.le_of_ble_eq_true rfl, Nat.le_of_ble_eq_true rfl⟩) hS (fun q _ h => hFc q h) hFc (fun r_12 u_13 t H locs ht hvm hw_14 hB_15 hz1 hk1 hS => ?_)
        obtain ⟨hP, hD⟩ := pz_rest (wr := [(qo, .inl (cO, 1, .inr (.inl u_3)))]) hP hD [1] [0] rfl rfl (by decide) (by decide) hk1 hFc
        subst hw_14
        refine lv_iload hx hb dL_law__1716 (lv_at hl 1 rfl) ?_
        refine lv_icmp_eq (tgt := 1723) hx hb dL_law__1718 (by decide) (fun c_16 => ?_) (fun c_16 => ?_)
        rotate_left
        · exact absurd c_16 (by decide)
        refine lv_iload hx hb dL_law__1723 (lv_at hl 1 rfl) ?_
        refine lv_if_ne (tgt := 1740) hx hb dL_law__1725 (by decide) (fun c_17 => ?_) (fun c_17 => ?_)
        rotate_left
        · exact absurd c_17 (by decide)
        refine lv_goto (tgt := 1743) hx hb dL_law__1740 (by decide) ?_
        exact lc_end l C0 (Nat.le_of_ble_eq_true rfl) (Nat.le_of_ble_eq_true rfl) hAe hS ls (lv_sub hl [2, 6] rfl)
      ·
        exact absurd hC hC2
    ·
      refine lv_istore (lv' := [(5, .int 0), (4, .int 0), (3, .ref qo), (2, .ref (g 0)), (1, .ref (h 0)), (0, .ref b)]) hx hb dL_law__1698 hl (by decide) rfl (fun ls hl => ?_)
      refine lv_aload_n hx hb dL_law__1700 rfl (lv_at hl 3 rfl) ?_
      refine lv_aload_n hx hb dL_law__1701 rfl (lv_at hl 5 rfl) ?_
      refine lv_iload hx hb dL_law__1702 (lv_at hl 1 rfl) ?_
      refine lv_iconst (v := 1) hx hb dL_law__1704 (by decide) ?_
      refine lv_iadd hx hb dL_law__1705 ?_
      refine lv_topi (fun x_18 ex_18 => ?_)
      obtain rfl : x_18 = 1 := ex_18.trans (by decide)
      refine va_sld hx hb hX hbl hbA hS (pz_inK (by decide)) dL_law__1706 ?_
      have hPc := hP.sub (ws' := [(g 0, .inr (13, [.ref (g 1), .int 0, .int 0, .int 0, .int 0, .int 0, .int 0, .int 0, .int 0, .int 0, .int (-1), .long 0, .long 0, .ref (g 14), .ref (g 15), .ref (g 16), .ref (g 17), .ref (g 18), .ref (g 19), .ref (g 20), .ref (g 21), .ref (g 22), .ref (g 23), .ref (g 24), .ref (g 25), .ref (g 26), .ref (g 27), .ref (g 28), .ref (g 29), .ref (g 30), .ref (g 31), .ref (g 32), .ref (g 33), .ref (g 34), .ref (g 35), .ref (g 36), .ref (g 37), .ref (g 38), .ref (g 39), .ref (g 40), .ref (g 41), .ref (g 42), .ref (g 43), .ref (g 44), .ref (g 45), .ref (g 46), .ref (g 47), .ref (g 48), .ref (g 49), .ref (g 50), .ref (g 51), .ref (g 52), .ref (g 53), .ref (g 54), .ref (g 55), .ref (g 56), .ref (g 57), .ref (g 58), .ref (g 59), .int 0, .int 0, .int 0, .int 0, .int 0, .int 0, .int 0, .int 0, .int 0, .int 0, .ref (g 70)])), (g 34, .inl (cb 34, 120, .inl (fun _ => 0))), (g 35, .inl (cb 35, 120, .inl (fun _ => 0)))]) [0, 1, 2] rfl
      have hDc := hD.sub (ws' := [(g 0, .inr (13, [.ref (g 1), .int 0, .int 0, .int 0, .int 0, .int 0, .int 0, .int 0, .int 0, .int 0, .int (-1), .long 0, .long 0, .ref (g 14), .ref (g 15), .ref (g 16), .ref (g 17), .ref (g 18), .ref (g 19), .ref (g 20), .ref (g 21), .ref (g 22), .ref (g 23), .ref (g 24), .ref (g 25), .ref (g 26), .ref (g 27), .ref (g 28), .ref (g 29), .ref (g 30), .ref (g 31), .ref (g 32), .ref (g 33), .ref (g 34), .ref (g 35), .ref (g 36), .ref (g 37), .ref (g 38), .ref (g 39), .ref (g 40), .ref (g 41), .ref (g 42), .ref (g 43), .ref (g 44), .ref (g 45), .ref (g 46), .ref (g 47), .ref (g 48), .ref (g 49), .ref (g 50), .ref (g 51), .ref (g 52), .ref (g 53), .ref (g 54), .ref (g 55), .ref (g 56), .ref (g 57), .ref (g 58), .ref (g 59), .int 0, .int 0, .int 0, .int 0, .int 0, .int 0, .int 0, .int 0, .int 0, .int 0, .ref (g 70)])), (g 34, .inl (cb 34, 120, .inl (fun _ => 0))), (g 35, .inl (cb 35, 120, .inl (fun _ => 0)))]) [0, 1, 2] (by decide) rfl
      have hKc := hK.sub (tys' := [(cb 34, .boolean), (cb 35, .boolean)]) [1, 2] rfl
      have hFc := va_free (wc := [(g 0, .inr (13, [.ref (g 1), .int 0, .int 0, .int 0, .int 0, .int 0, .int 0, .int 0, .int 0, .int 0, .int (-1), .long 0, .long 0, .ref (g 14), .ref (g 15), .ref (g 16), .ref (g 17), .ref (g 18), .ref (g 19), .ref (g 20), .ref (g 21), .ref (g 22), .ref (g 23), .ref (g 24), .ref (g 25), .ref (g 26), .ref (g 27), .ref (g 28), .ref (g 29), .ref (g 30), .ref (g 31), .ref (g 32), .ref (g 33), .ref (g 34), .ref (g 35), .ref (g 36), .ref (g 37), .ref (g 38), .ref (g 39), .ref (g 40), .ref (g 41), .ref (g 42), .ref (g 43), .ref (g 44), .ref (g 45), .ref (g 46), .ref (g 47), .ref (g 48), .ref (g 49), .ref (g 50), .ref (g 51), .ref (g 52), .ref (g 53), .ref (g 54), .ref (g 55), .ref (g 56), .ref (g 57), .ref (g 58), .ref (g 59), .int 0, .int 0, .int 0, .int 0, .int 0, .int 0, .int 0, .int 0, .int 0, .int 0, .ref (g 70)])), (g 34, .inl (cb 34, 120, .inl (fun _ => 0))), (g 35, .inl (cb 35, 120, .inl (fun _ => 0)))]) hD hS hA [0, 1, 2] rfl
      refine va_calli (va_runV (As := [.int (xs (Int32.toNatClampNeg 1))]) (rest := []) ⟨hx, hb, hml, hown, hts⟩ (c_X12_count l hlt e0 dC dI H.size g cb (xs (Int32.toNatClampNeg 1))) (cwV 1 hts gL_law__X12_count rfl rfl rfl (by decide +kernel) ⟨Nat.le_of_ble_eq_true rfl, Nat.le_of_ble_eq_true rfl⟩) (pz_preV [.int (xs (Int32.toNatClampNeg 1))] hPc hDc hKc hZ hV hT hS hFc (va_recv hKc hPc (ci := 13) (q0 := 0) rfl rfl)) rfl rfl hl.1 rfl (lv_room (Nat.le_of_ble_eq_true rfl)) dL_law__1707 ⟨Nat.le_of_ble_eq_true rfl, Nat.le_of_ble_eq_true rfl⟩) hS (fun q _ h => hFc q h) hFc (fun r_19 u_20 t H locs ht hvm hw_21 hB_22 hz1 hk1 hS => ?_)
      obtain ⟨hP1, hD1⟩ := hB_22
      rw [ht] at hP1
      obtain ⟨hP, hD⟩ := va_join (wr := [(qo, .inl (cO, 1, .inr (.inl u_3)))]) (w1 := [(g 0, .inr (13, u_20))]) hP hD [0, 1, 2] [3] rfl rfl (by decide) (by decide) hk1 hFc hP1 hD1
      have hP : va_P (dC, dI) vwCl [(qo, .inl (cO, 1, .inr (.inl u_3))), (g 0, .inr (13, u_20))] H := hP
      have hD : va_D A [(qo, .inl (cO, 1, .inr (.inl u_3))), (g 0, .inr (13, u_20))] := hD
      rcases hw_21 with ⟨hC2, hfs⟩ | ⟨hC2, hfs, rfl⟩
      ·
        exact absurd hC2 hC
      ·
        refine lv_istore (lv' := [(6, .int 0), (5, .int 0), (4, .int 0), (3, .ref qo), (2, .ref (g 0)), (1, .ref (h 0)), (0, .ref b)]) hx hb dL_law__1710 hl (by decide) rfl (fun ls hl => ?_)
        refine lv_aload_n hx hb dL_law__1712 rfl (lv_at hl 4 rfl) ?_
        have hPc := hP.sub (ws' := [(g 0, .inr (13, u_20))]) [1] rfl
        have hDc := hD.sub (ws' := [(g 0, .inr (13, u_20))]) [1] (by decide) rfl
        have hKc := hK.sub (tys' := []) [] rfl
        have hFc := va_free (wc := [(g 0, .inr (13, u_20))]) hD hS hA [1] rfl
        refine va_calli (va_runV (As := []) (rest := []) ⟨hx, hb, hml, hown, hts⟩ (c_X12_thrown l hlt e0 dC dI H.size (g 0) u_20 0 hfs) (cwV 0 hts gL_law__X12_thrown rfl rfl rfl (by decide +kernel) ⟨Nat.le_of_ble_eq_true rfl, Nat.le_of_ble_eq_true rfl⟩) (pz_preV [] hPc hDc hKc hZ hV hT hS hFc (va_recv hKc hPc (ci := 13) (q0 := 0) rfl rfl)) rfl rfl hl.1 rfl (lv_room (Nat.le_of_ble_eq_true rfl)) dL_law__1713 ⟨Nat.le_of_ble_eq_true rfl, Nat.le_of_ble_eq_true rfl⟩) hS (fun q _ h => hFc q h) hFc (fun r_23 u_24 t H locs ht hvm hw_25 hB_26 hz1 hk1 hS => ?_)
        obtain ⟨hP, hD⟩ := pz_rest (wr := [(qo, .inl (cO, 1, .inr (.inl u_3)))]) hP hD [1] [0] rfl rfl (by decide) (by decide) hk1 hFc
        subst hw_25
        refine lv_iload hx hb dL_law__1716 (lv_at hl 1 rfl) ?_
        refine lv_icmp_eq (tgt := 1723) hx hb dL_law__1718 (by decide) (fun c_27 => ?_) (fun c_27 => ?_)
        rotate_left
        · exact absurd c_27 (by decide)
        refine lv_iload hx hb dL_law__1723 (lv_at hl 1 rfl) ?_
        refine lv_if_ne (tgt := 1740) hx hb dL_law__1725 (by decide) (fun c_28 => ?_) (fun c_28 => ?_)
        · exact absurd c_28 (by decide)
        refine lv_aload_n hx hb dL_law__1728 rfl (lv_at hl 3 rfl) ?_
        refine lv_iconst (v := 0) hx hb dL_law__1729 (by decide) ?_
        refine va_lald hx hb hK hP 0 0 rfl rfl (pz_inK (by decide)) dL_law__1730 ?_
        rw [hval]
        refine lv_iload hx hb dL_law__1731 (lv_at hl 0 rfl) ?_
        refine lv_i2l (v := 0) hx hb dL_law__1733 (by decide) ?_
        refine W.lcmp hx hb dL_law__1734 ?_
        refine lv_topi (fun x_29 ex_29 => ?_)
        obtain rfl : x_29 = 0 := ex_29.trans (by decide)
        refine lv_if_eq (tgt := 1740) hx hb dL_law__1735 (by decide) (fun c_30 => ?_) (fun c_30 => ?_)
        rotate_left
        · exact absurd c_30 (by decide)
        refine lv_goto (tgt := 1743) hx hb dL_law__1740 (by decide) ?_
        exact lc_end l C0 (Nat.le_of_ble_eq_true rfl) (Nat.le_of_ble_eq_true rfl) hAe hS ls (lv_sub hl [2, 6] rfl)

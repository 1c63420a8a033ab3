theorem dL_law__743 : decode cL_law_ 743 = .ok (.aload_n 1, 1) := by decide +kernel
theorem dL_law__744 : decode cL_law_ 744 = .ok (.aload_n 0, 1) := by decide +kernel
theorem dL_law__745 : decode cL_law_ 745 = .ok (.iload 4, 2) := by decide +kernel
theorem dL_law__747 : decode cL_law_ 747 = .ok (.iconst 1, 1) := by decide +kernel
theorem dL_law__748 : decode cL_law_ 748 = .ok (.iadd, 1) := by decide +kernel
theorem dL_law__749 : decode cL_law_ 749 = .ok (.iaload, 1) := by decide +kernel
theorem dL_law__750 : decode cL_law_ 750 = .ok (.aload_n 0, 1) := by decide +kernel
theorem dL_law__751 : decode cL_law_ 751 = .ok (.iload 4, 2) := by decide +kernel
theorem dL_law__753 : decode cL_law_ 753 = .ok (.iconst 2, 1) := by decide +kernel
theorem dL_law__754 : decode cL_law_ 754 = .ok (.iadd, 1) := by decide +kernel
theorem dL_law__755 : decode cL_law_ 755 = .ok (.iaload, 1) := by decide +kernel
theorem dL_law__756 : decode cL_law_ 756 = .ok (.aload_n 3, 1) := by decide +kernel
theorem dL_law__757 : decode cL_law_ 757 = .ok (.invokestatic 121, 3) := by decide +kernel
theorem dL_law__760 : decode cL_law_ 760 = .ok (.istore 5, 2) := by decide +kernel
theorem dL_law__762 : decode cL_law_ 762 = .ok (.aload_n 2, 1) := by decide +kernel
theorem dL_law__763 : decode cL_law_ 763 = .ok (.aload_n 0, 1) := by decide +kernel
theorem dL_law__764 : decode cL_law_ 764 = .ok (.iload 4, 2) := by decide +kernel
theorem dL_law__766 : decode cL_law_ 766 = .ok (.iconst 1, 1) := by decide +kernel
theorem dL_law__767 : decode cL_law_ 767 = .ok (.iadd, 1) := by decide +kernel
theorem dL_law__768 : decode cL_law_ 768 = .ok (.iaload, 1) := by decide +kernel
theorem dL_law__769 : decode cL_law_ 769 = .ok (.aload_n 0, 1) := by decide +kernel
theorem dL_law__770 : decode cL_law_ 770 = .ok (.iload 4, 2) := by decide +kernel
theorem dL_law__772 : decode cL_law_ 772 = .ok (.iconst 2, 1) := by decide +kernel
theorem dL_law__773 : decode cL_law_ 773 = .ok (.iadd, 1) := by decide +kernel
theorem dL_law__774 : decode cL_law_ 774 = .ok (.iaload, 1) := by decide +kernel
theorem dL_law__775 : decode cL_law_ 775 = .ok (.invokevirtual 123, 3) := by decide +kernel
theorem dL_law__778 : decode cL_law_ 778 = .ok (.istore 6, 2) := by decide +kernel
theorem dL_law__780 : decode cL_law_ 780 = .ok (.aload_n 2, 1) := by decide +kernel
theorem dL_law__781 : decode cL_law_ 781 = .ok (.invokevirtual 95, 3) := by decide +kernel
theorem dL_law__784 : decode cL_law_ 784 = .ok (.iload 5, 2) := by decide +kernel
theorem dL_law__786 : decode cL_law_ 786 = .ok (.if_icmp .eq 5, 3) := by decide +kernel
theorem dL_law__791 : decode cL_law_ 791 = .ok (.iload 5, 2) := by decide +kernel
theorem dL_law__793 : decode cL_law_ 793 = .ok (.ifCond .ne 15, 3) := by decide +kernel
theorem dL_law__796 : decode cL_law_ 796 = .ok (.aload_n 3, 1) := by decide +kernel
theorem dL_law__797 : decode cL_law_ 797 = .ok (.iconst 0, 1) := by decide +kernel
theorem dL_law__798 : decode cL_law_ 798 = .ok (.laload, 1) := by decide +kernel
theorem dL_law__799 : decode cL_law_ 799 = .ok (.iload 6, 2) := by decide +kernel
theorem dL_law__801 : decode cL_law_ 801 = .ok (.i2l, 1) := by decide +kernel
theorem dL_law__802 : decode cL_law_ 802 = .ok (.lcmp, 1) := by decide +kernel
theorem dL_law__803 : decode cL_law_ 803 = .ok (.ifCond .eq 5, 3) := by decide +kernel
theorem dL_law__808 : decode cL_law_ 808 = .ok (.goto 935, 3) := by decide +kernel
set_option maxRecDepth 20000 in
theorem ggL_law__L_law : GoodIn wsL_law_ wsL_law := goodIn_ca (goodIn_r _ [392, 393, 394, 395, 396, 2, 397, 398, 399, 24, 379, 34, 18, 28, 400, 401, 402, 403, 404, 405, 406, 149, 150, 151, 144, 145, 146, 15, 147, 148, 407, 408, 409, 27, 410, 411, 412, 413, 63, 414, 415, 416, 417, 62, 418, 419, 420, 421, 422, 423, 424, 425, 426, 427, 232, 206, 233, 428, 429, 430, 431, 432, 433, 434, 435, 69, 436, 437, 438, 439, 440, 441, 442, 443, 444, 445, 446, 447, 448, 449, 450, 451, 452, 453, 454, 455, 456, 457, 458, 459, 460, 461, 462, 463, 464, 465, 466, 467, 468, 469, 470, 471, 472, 473, 474, 475, 476, 161, 162, 163, 477, 478, 479, 480, 481, 482, 483, 484, 485, 486, 487, 488, 489, 490, 491, 492, 493, 494, 495, 496, 497, 498, 499, 500, 501, 502, 503, 504, 505, 506, 507, 508, 509, 510, 511, 512, 513, 514, 515, 516, 517, 518, 64, 519, 520, 521, 522, 523, 524, 525, 526, 527, 528, 529, 530, 531, 532, 533, 534, 535, 536, 537, 538, 539, 540, 541, 220, 542, 543, 544, 545, 546, 547, 548, 54, 231, 234, 235, 236, 237, 549, 550, 551, 552, 11, 12, 553, 554, 186, 187, 188, 189, 190, 191, 39, 192, 193, 194, 195, 196, 197, 198, 199, 200, 201, 202, 203, 38, 204, 205, 207, 208, 209, 210, 211, 212, 213, 214, 215, 216, 217, 218, 219, 221, 222, 223, 224, 225, 226, 227, 228, 229, 230, 1112, 1113, 1114, 1115, 1116, 1117, 1118, 1119, 1120, 1121, 1122, 1123, 1124, 1125, 1199, 1200, 1201, 1202, 1203, 1204, 1205, 1239, 1240, 1196, 1197, 1198, 1211, 1212, 1213, 1214, 1215] (by decide +kernel) (by decide +kernel)) (goodIn_sub (fun _ h => List.mem_append_right _ h) (by decide +kernel))
set_option maxRecDepth 20000 in
theorem gL_law__L_law : GoodIn wsL_law_ (va_wsS RL 121 yL_law wsL_law) := goodIn_app (goodIn_of _ (by decide +kernel)) ggL_law__L_law
set_option maxRecDepth 20000 in
theorem ggL_law__X12_law : GoodIn wsL_law_ wsX12_law := goodIn_r _ [558, 242, 389, 82, 559, 560, 561, 562, 563, 564, 124, 271, 272, 273, 5, 274, 565, 566, 567, 568, 569, 129, 126, 125, 570, 571, 572, 573, 574, 575, 576, 577, 578, 579, 580, 123, 581, 582, 583, 584, 585, 586, 587, 588, 589, 590, 591, 449, 450, 451, 452, 453, 454, 455, 456, 457, 458, 459, 592, 461, 462, 463, 464, 465, 466, 467, 468, 469, 470, 471, 472, 473, 474, 475, 476, 161, 162, 163, 477, 478, 479, 480, 481, 482, 483, 484, 485, 486, 487, 488, 489, 490, 491, 492, 493, 593, 594, 595, 596, 597, 598, 599, 600, 601, 602, 603, 604, 605, 606, 607, 608, 609, 610, 611, 127, 612, 81, 613, 614, 615, 616, 617, 618, 619, 620, 621, 622, 623, 624, 1126, 1127, 1128, 1129, 1130, 1131, 1132, 1133, 1134, 1135, 1136, 1137, 1138, 1139, 1140, 1141, 1142, 1143, 1144, 1145, 1146, 1147, 1148, 1149, 1150, 1151, 1152, 1153, 1154, 1155, 1156, 1157, 1158, 1159, 1160, 1161, 1162, 1163, 1164, 1165, 1166, 1167, 1168, 1169, 1170, 1171, 1172, 1173, 1174, 1175, 1176, 1177, 1178, 1179, 1180, 1181, 1182, 1183, 1184, 1185, 1186, 1187, 1188, 1189, 1190, 1191, 1192, 1193, 1194, 1195] (by decide +kernel) (by decide +kernel)
set_option maxRecDepth 20000 in
theorem gL_law__X12_law : GoodIn wsL_law_ (wsV RL 123 RX12 yX12_law wsX12_law) := goodIn_app (goodIn_of _ (by decide +kernel)) ggL_law__X12_law
set_option maxHeartbeats 8000000 in
set_option maxRecDepth 100000 in
/-- the law's case 8: law -/
theorem lc_law {p : Program} {e : Env} {s : State} {m : MethodId} {below : List Frame} {meth : Method} {c : Code} (l : Launch) (hlt : l.stackTraces = false) {b : Nat} {xs : Nat → Int32} (C0 : lw_At p s m meth c b 6 xs) (e0 : Nat) (dC : Nat → ClassId) (dI : Nat → Nat → Nat) (h g : Nat → Nat) (ca cb : Nat → ClassId) (qo : Nat) (cO : ClassId) (fo : Nat → Int64) {A : Nat → Prop} (hAe : (fun q : Nat => s.heap.size ≤ q) = A) {H : Heap} {locs : List Loc} (hK : va_K (dC, dI) vwCl [(ca 0, .int), (ca 1, .int), (cO, .long), (cb 54, .int), (cb 56, .int), (cb 55, .int)] s) (hP : va_P (dC, dI) vwCl [(h 0, .inr (12, [.ref (h 1), .ref (h 2), .ref (h 3), .ref (h 4), .ref (h 5), .ref (h 6), .ref (h 8), .ref (h 12), .ref (h 11), .int 0, .int 0, .int (-1), .long 0, .long 0])), (h 3, .inr (0, [.int 0, .ref e0, .int 0])), (h 6, .inr (10, [.ref (h 7), .int 0])), (h 7, .inl (ca 0, 500, .inl (fun _ => 0))), (h 8, .inr (6, [.ref (h 9), .ref (h 10), .int 0, .int 0, .int 0])), (h 9, .inr (11, [.ref (h 6), .int 0, .int 0, .int 0, .int 0])), (h 10, .inl (ca 1, 500, .inl (fun _ => 0))), (qo, .inl (cO, 1, .inr (.inl fo))), (g 0, .inr (13, [.ref (g 1), .int 0, .int 0, .int 0, .int 0, .int 0, .int 0, .int 0, .int 0, .int 0, .int (-1), .long 0, .long 0, .ref (g 14), .ref (g 15), .ref (g 16), .ref (g 17), .ref (g 18), .ref (g 19), .ref (g 20), .ref (g 21), .ref (g 22), .ref (g 23), .ref (g 24), .ref (g 25), .ref (g 26), .ref (g 27), .ref (g 28), .ref (g 29), .ref (g 30), .ref (g 31), .ref (g 32), .ref (g 33), .ref (g 34), .ref (g 35), .ref (g 36), .ref (g 37), .ref (g 38), .ref (g 39), .ref (g 40), .ref (g 41), .ref (g 42), .ref (g 43), .ref (g 44), .ref (g 45), .ref (g 46), .ref (g 47), .ref (g 48), .ref (g 49), .ref (g 50), .ref (g 51), .ref (g 52), .ref (g 53), .ref (g 54), .ref (g 55), .ref (g 56), .ref (g 57), .ref (g 58), .ref (g 59), .int 0, .int 0, .int 0, .int 0, .int 0, .int 0, .int 0, .int 0, .int 0, .int 0, .ref (g 70)])), (g 54, .inl (cb 54, 6, .inl (fun _ => 0))), (g 56, .inl (cb 56, 78, .inl (fun _ => 0))), (g 55, .inl (cb 55, 6, .inl (fun _ => 0)))] H) (hD : va_D A [(h 0, .inr (12, [.ref (h 1), .ref (h 2), .ref (h 3), .ref (h 4), .ref (h 5), .ref (h 6), .ref (h 8), .ref (h 12), .ref (h 11), .int 0, .int 0, .int (-1), .long 0, .long 0])), (h 3, .inr (0, [.int 0, .ref e0, .int 0])), (h 6, .inr (10, [.ref (h 7), .int 0])), (h 7, .inl (ca 0, 500, .inl (fun _ => 0))), (h 8, .inr (6, [.ref (h 9), .ref (h 10), .int 0, .int 0, .int 0])), (h 9, .inr (11, [.ref (h 6), .int 0, .int 0, .int 0, .int 0])), (h 10, .inl (ca 1, 500, .inl (fun _ => 0))), (qo, .inl (cO, 1, .inr (.inl fo))), (g 0, .inr (13, [.ref (g 1), .int 0, .int 0, .int 0, .int 0, .int 0, .int 0, .int 0, .int 0, .int 0, .int (-1), .long 0, .long 0, .ref (g 14), .ref (g 15), .ref (g 16), .ref (g 17), .ref (g 18), .ref (g 19), .ref (g 20), .ref (g 21), .ref (g 22), .ref (g 23), .ref (g 24), .ref (g 25), .ref (g 26), .ref (g 27), .ref (g 28), .ref (g 29), .ref (g 30), .ref (g 31), .ref (g 32), .ref (g 33), .ref (g 34), .ref (g 35), .ref (g 36), .ref (g 37), .ref (g 38), .ref (g 39), .ref (g 40), .ref (g 41), .ref (g 42), .ref (g 43), .ref (g 44), .ref (g 45), .ref (g 46), .ref (g 47), .ref (g 48), .ref (g 49), .ref (g 50), .ref (g 51), .ref (g 52), .ref (g 53), .ref (g 54), .ref (g 55), .ref (g 56), .ref (g 57), .ref (g 58), .ref (g 59), .int 0, .int 0, .int 0, .int 0, .int 0, .int 0, .int 0, .int 0, .int 0, .int 0, .ref (g 70)])), (g 54, .inl (cb 54, 6, .inl (fun _ => 0))), (g 56, .inl (cb 56, 78, .inl (fun _ => 0))), (g 55, .inl (cb 55, 6, .inl (fun _ => 0)))]) (hS : va_S A s.heap H locs) (hZ : pz_s e0 A s s.heap) (hV : pz_v s) (hT : pz_t A s s.heap) (ls : Array Slot) (hl : lv_has ls 8 [(4, .int 0), (3, .ref qo), (2, .ref (g 0)), (1, .ref (h 0)), (0, .ref b)]) : W p l e room_1 s m #[Value.ref b] below meth c H locs 300 100000 (lw_Z below #[Value.ref b] s) (F0 m 743 ls []) := by
  obtain ⟨hx, hb, hr, hml, hown, hts, hX, hbl, hlocks, hgv⟩ := id C0
  have hown : s.vm.findClass RL = some m.cls := hown
  have hts := fun w h => hts w (wsL_law__in w h)
  have hA : ∀ q : Nat, s.heap.size ≤ q → A q := fun q h => by rw [← hAe]; exact h
  have hbA : ¬ A b := by rw [← hAe]; exact Nat.not_le.mpr hbl
  refine lv_aload_n hx hb dL_law__743 rfl (lv_at hl 3 rfl) ?_
  refine lv_aload_n hx hb dL_law__744 rfl (lv_at hl 4 rfl) ?_
  refine lv_iload hx hb dL_law__745 (lv_at hl 0 rfl) ?_
  refine lv_iconst (v := 1) hx hb dL_law__747 (by decide) ?_
  refine lv_iadd hx hb dL_law__748 ?_
  refine lv_topi (fun x_1 ex_1 => ?_)
  obtain rfl : x_1 = 1 := ex_1.trans (by decide)
  refine va_sld hx hb hX hbl hbA hS (pz_inK (by decide)) dL_law__749 ?_
  refine lv_aload_n hx hb dL_law__750 rfl (lv_at hl 4 rfl) ?_
  refine lv_iload hx hb dL_law__751 (lv_at hl 0 rfl) ?_
  refine lv_iconst (v := 2) hx hb dL_law__753 (by decide) ?_
  refine lv_iadd hx hb dL_law__754 ?_
  refine lv_topi (fun x_2 ex_2 => ?_)
  obtain rfl : x_2 = 2 := ex_2.trans (by decide)
  refine va_sld hx hb hX hbl hbA hS (pz_inK (by decide)) dL_law__755 ?_
  refine lv_aload_n hx hb dL_law__756 rfl (lv_at hl 1 rfl) ?_
  have hPc := hP.sub (ws' := [(h 0, .inr (12, [.ref (h 1), .ref (h 2), .ref (h 3), .ref (h 4), .ref (h 5), .ref (h 6), .ref (h 8), .ref (h 12), .ref (h 11), .int 0, .int 0, .int (-1), .long 0, .long 0])), (h 3, .inr (0, [.int 0, .ref e0, .int 0])), (h 6, .inr (10, [.ref (h 7), .int 0])), (h 7, .inl (ca 0, 500, .inl (fun _ => 0))), (h 8, .inr (6, [.ref (h 9), .ref (h 10), .int 0, .int 0, .int 0])), (h 9, .inr (11, [.ref (h 6), .int 0, .int 0, .int 0, .int 0])), (h 10, .inl (ca 1, 500, .inl (fun _ => 0))), (qo, .inl (cO, 1, .inr (.inl fo)))]) [0, 1, 2, 3, 4, 5, 6, 7] rfl
  have hDc := hD.sub (ws' := [(h 0, .inr (12, [.ref (h 1), .ref (h 2), .ref (h 3), .ref (h 4), .ref (h 5), .ref (h 6), .ref (h 8), .ref (h 12), .ref (h 11), .int 0, .int 0, .int (-1), .long 0, .long 0])), (h 3, .inr (0, [.int 0, .ref e0, .int 0])), (h 6, .inr (10, [.ref (h 7), .int 0])), (h 7, .inl (ca 0, 500, .inl (fun _ => 0))), (h 8, .inr (6, [.ref (h 9), .ref (h 10), .int 0, .int 0, .int 0])), (h 9, .inr (11, [.ref (h 6), .int 0, .int 0, .int 0, .int 0])), (h 10, .inl (ca 1, 500, .inl (fun _ => 0))), (qo, .inl (cO, 1, .inr (.inl fo)))]) [0, 1, 2, 3, 4, 5, 6, 7] (by decide) rfl
  have hKc := hK.sub (tys' := [(ca 0, .int), (ca 1, .int), (cO, .long)]) [0, 1, 2] rfl
  have hFc := va_free (wc := [(h 0, .inr (12, [.ref (h 1), .ref (h 2), .ref (h 3), .ref (h 4), .ref (h 5), .ref (h 6), .ref (h 8), .ref (h 12), .ref (h 11), .int 0, .int 0, .int (-1), .long 0, .long 0])), (h 3, .inr (0, [.int 0, .ref e0, .int 0])), (h 6, .inr (10, [.ref (h 7), .int 0])), (h 7, .inl (ca 0, 500, .inl (fun _ => 0))), (h 8, .inr (6, [.ref (h 9), .ref (h 10), .int 0, .int 0, .int 0])), (h 9, .inr (11, [.ref (h 6), .int 0, .int 0, .int 0, .int 0])), (h 10, .inl (ca 1, 500, .inl (fun _ => 0))), (qo, .inl (cO, 1, .inr (.inl fo)))]) hD hS hA [0, 1, 2, 3, 4, 5, 6, 7] rfl
  refine vx_calli (vx_runSX (As := [.ref (h 0), .int (xs (Int32.toNatClampNeg 1)), .int (xs (Int32.toNatClampNeg 2)), .ref qo]) (rest := []) ⟨hx, hb, hml, hown, hts⟩ (c_L_law l hlt e0 dC dI H.size h ca qo cO fo (xs (Int32.toNatClampNeg 1)) (xs (Int32.toNatClampNeg 2))) (vx_cwSW 4 hts gL_law__L_law rfl rfl rfl (by decide +kernel) ⟨Nat.le_of_ble_eq_true rfl, Nat.le_of_ble_eq_true rfl⟩) (pz_preS [.ref (h 0), .int (xs (Int32.toNatClampNeg 1)), .int (xs (Int32.toNatClampNeg 2)), .ref qo] hPc hDc hKc hZ hV hT hS hFc) rfl rfl hl.1 rfl (lv_room (Nat.le_of_ble_eq_true rfl)) dL_law__757 ⟨Nat.le_of_ble_eq_true rfl, Nat.le_of_ble_eq_true rfl⟩) hS (fun q _ h => hFc q h) hFc (fun q _ h => hFc q h) (fun E ce qx_7 u_4 t H locs ht hvm hpx hE hz1 hk1 hS hce hcv hcl => ?_) (fun r_3 u_4 t H locs ht hvm hw_5 hB_6 hz1 hk1 hS => ?_)
  ·
    exact hpx.elim
  ·
    obtain ⟨hP1, hD1⟩ := hB_6
    rw [ht] at hP1
    obtain ⟨hP, hD⟩ := va_join (wr := [(g 0, .inr (13, [.ref (g 1), .int 0, .int 0, .int 0, .int 0, .int 0, .int 0, .int 0, .int 0, .int 0, .int (-1), .long 0, .long 0, .ref (g 14), .ref (g 15), .ref (g 16), .ref (g 17), .ref (g 18), .ref (g 19), .ref (g 20), .ref (g 21), .ref (g 22), .ref (g 23), .ref (g 24), .ref (g 25), .ref (g 26), .ref (g 27), .ref (g 28), .ref (g 29), .ref (g 30), .ref (g 31), .ref (g 32), .ref (g 33), .ref (g 34), .ref (g 35), .ref (g 36), .ref (g 37), .ref (g 38), .ref (g 39), .ref (g 40), .ref (g 41), .ref (g 42), .ref (g 43), .ref (g 44), .ref (g 45), .ref (g 46), .ref (g 47), .ref (g 48), .ref (g 49), .ref (g 50), .ref (g 51), .ref (g 52), .ref (g 53), .ref (g 54), .ref (g 55), .ref (g 56), .ref (g 57), .ref (g 58), .ref (g 59), .int 0, .int 0, .int 0, .int 0, .int 0, .int 0, .int 0, .int 0, .int 0, .int 0, .ref (g 70)])), (g 54, .inl (cb 54, 6, .inl (fun _ => 0))), (g 56, .inl (cb 56, 78, .inl (fun _ => 0))), (g 55, .inl (cb 55, 6, .inl (fun _ => 0)))]) (w1 := [(qo, .inl (cO, 1, .inr (.inl u_4)))]) hP hD [0, 1, 2, 3, 4, 5, 6, 7] [8, 9, 10, 11] rfl rfl (by decide) (by decide) hk1 hFc hP1 hD1
    have hP : va_P (dC, dI) vwCl [(g 0, .inr (13, [.ref (g 1), .int 0, .int 0, .int 0, .int 0, .int 0, .int 0, .int 0, .int 0, .int 0, .int (-1), .long 0, .long 0, .ref (g 14), .ref (g 15), .ref (g 16), .ref (g 17), .ref (g 18), .ref (g 19), .ref (g 20), .ref (g 21), .ref (g 22), .ref (g 23), .ref (g 24), .ref (g 25), .ref (g 26), .ref (g 27), .ref (g 28), .ref (g 29), .ref (g 30), .ref (g 31), .ref (g 32), .ref (g 33), .ref (g 34), .ref (g 35), .ref (g 36), .ref (g 37), .ref (g 38), .ref (g 39), .ref (g 40), .ref (g 41), .ref (g 42), .ref (g 43), .ref (g 44), .ref (g 45), .ref (g 46), .ref (g 47), .ref (g 48), .ref (g 49), .ref (g 50), .ref (g 51), .ref (g 52), .ref (g 53), .ref (g 54), .ref (g 55), .ref (g 56), .ref (g 57), .ref (g 58), .ref (g 59), .int 0, .int 0, .int 0, .int 0, .int 0, .int 0, .int 0, .int 0, .int 0, .int 0, .ref (g 70)])), (g 54, .inl (cb 54, 6, .inl (fun _ => 0))), (g 56, .inl (cb 56, 78, .inl (fun _ => 0))), (g 55, .inl (cb 55, 6, .inl (fun _ => 0))), (qo, .inl (cO, 1, .inr (.inl u_4)))] H := hP
    have hD : va_D A [(g 0, .inr (13, [.ref (g 1), .int 0, .int 0, .int 0, .int 0, .int 0, .int 0, .int 0, .int 0, .int 0, .int (-1), .long 0, .long 0, .ref (g 14), .ref (g 15), .ref (g 16), .ref (g 17), .ref (g 18), .ref (g 19), .ref (g 20), .ref (g 21), .ref (g 22), .ref (g 23), .ref (g 24), .ref (g 25), .ref (g 26), .ref (g 27), .ref (g 28), .ref (g 29), .ref (g 30), .ref (g 31), .ref (g 32), .ref (g 33), .ref (g 34), .ref (g 35), .ref (g 36), .ref (g 37), .ref (g 38), .ref (g 39), .ref (g 40), .ref (g 41), .ref (g 42), .ref (g 43), .ref (g 44), .ref (g 45), .ref (g 46), .ref (g 47), .ref (g 48), .ref (g 49), .ref (g 50), .ref (g 51), .ref (g 52), .ref (g 53), .ref (g 54), .ref (g 55), .ref (g 56), .ref (g 57), .ref (g 58), .ref (g 59), .int 0, .int 0, .int 0, .int 0, .int 0, .int 0, .int 0, .int 0, .int 0, .int 0, .ref (g 70)])), (g 54, .inl (cb 54, 6, .inl (fun _ => 0))), (g 56, .inl (cb 56, 78, .inl (fun _ => 0))), (g 55, .inl (cb 55, 6, .inl (fun _ => 0))), (qo, .inl (cO, 1, .inr (.inl u_4)))] := hD
    rcases hw_5 with ⟨hC, rfl⟩ | ⟨hC, rfl, hval⟩
    ·
      refine lv_istore (lv' := [(5, .int 1), (4, .int 0), (3, .ref qo), (2, .ref (g 0)), (1, .ref (h 0)), (0, .ref b)]) hx hb dL_law__760 hl (by decide) rfl (fun ls hl => ?_)
      refine lv_aload_n hx hb dL_law__762 rfl (lv_at hl 3 rfl) ?_
      refine lv_aload_n hx hb dL_law__763 rfl (lv_at hl 5 rfl) ?_
      refine lv_iload hx hb dL_law__764 (lv_at hl 1 rfl) ?_
      refine lv_iconst (v := 1) hx hb dL_law__766 (by decide) ?_
      refine lv_iadd hx hb dL_law__767 ?_
      refine lv_topi (fun x_8 ex_8 => ?_)
      obtain rfl : x_8 = 1 := ex_8.trans (by decide)
      refine va_sld hx hb hX hbl hbA hS (pz_inK (by decide)) dL_law__768 ?_
      refine lv_aload_n hx hb dL_law__769 rfl (lv_at hl 5 rfl) ?_
      refine lv_iload hx hb dL_law__770 (lv_at hl 1 rfl) ?_
      refine lv_iconst (v := 2) hx hb dL_law__772 (by decide) ?_
      refine lv_iadd hx hb dL_law__773 ?_
      refine lv_topi (fun x_9 ex_9 => ?_)
      obtain rfl : x_9 = 2 := ex_9.trans (by decide)
      refine va_sld hx hb hX hbl hbA hS (pz_inK (by decide)) dL_law__774 ?_
      have hPc := hP.sub (ws' := [(g 0, .inr (13, [.ref (g 1), .int 0, .int 0, .int 0, .int 0, .int 0, .int 0, .int 0, .int 0, .int 0, .int (-1), .long 0, .long 0, .ref (g 14), .ref (g 15), .ref (g 16), .ref (g 17), .ref (g 18), .ref (g 19), .ref (g 20), .ref (g 21), .ref (g 22), .ref (g 23), .ref (g 24), .ref (g 25), .ref (g 26), .ref (g 27), .ref (g 28), .ref (g 29), .ref (g 30), .ref (g 31), .ref (g 32), .ref (g 33), .ref (g 34), .ref (g 35), .ref (g 36), .ref (g 37), .ref (g 38), .ref (g 39), .ref (g 40), .ref (g 41), .ref (g 42), .ref (g 43), .ref (g 44), .ref (g 45), .ref (g 46), .ref (g 47), .ref (g 48), .ref (g 49), .ref (g 50), .ref (g 51), .ref (g 52), .ref (g 53), .ref (g 54), .ref (g 55), .ref (g 56), .ref (g 57), .ref (g 58), .ref (g 59), .int 0, .int 0, .int 0, .int 0, .int 0, .int 0, .int 0, .int 0, .int 0, .int 0, .ref (g 70)])), (g 54, .inl (cb 54, 6, .inl (fun _ => 0))), (g 56, .inl (cb 56, 78, .inl (fun _ => 0))), (g 55, .inl (cb 55, 6, .inl (fun _ => 0)))]) [0, 1, 2, 3] rfl
      have hDc := hD.sub (ws' := [(g 0, .inr (13, [.ref (g 1), .int 0, .int 0, .int 0, .int 0, .int 0, .int 0, .int 0, .int 0, .int 0, .int (-1), .long 0, .long 0, .ref (g 14), .ref (g 15), .ref (g 16), .ref (g 17), .ref (g 18), .ref (g 19), .ref (g 20), .ref (g 21), .ref (g 22), .ref (g 23), .ref (g 24), .ref (g 25), .ref (g 26), .ref (g 27), .ref (g 28), .ref (g 29), .ref (g 30), .ref (g 31), .ref (g 32), .ref (g 33), .ref (g 34), .ref (g 35), .ref (g 36), .ref (g 37), .ref (g 38), .ref (g 39), .ref (g 40), .ref (g 41), .ref (g 42), .ref (g 43), .ref (g 44), .ref (g 45), .ref (g 46), .ref (g 47), .ref (g 48), .ref (g 49), .ref (g 50), .ref (g 51), .ref (g 52), .ref (g 53), .ref (g 54), .ref (g 55), .ref (g 56), .ref (g 57), .ref (g 58), .ref (g 59), .int 0, .int 0, .int 0, .int 0, .int 0, .int 0, .int 0, .int 0, .int 0, .int 0, .ref (g 70)])), (g 54, .inl (cb 54, 6, .inl (fun _ => 0))), (g 56, .inl (cb 56, 78, .inl (fun _ => 0))), (g 55, .inl (cb 55, 6, .inl (fun _ => 0)))]) [0, 1, 2, 3] (by decide) rfl
      have hKc := hK.sub (tys' := [(cb 54, .int), (cb 56, .int), (cb 55, .int)]) [3, 4, 5] rfl
      have hFc := va_free (wc := [(g 0, .inr (13, [.ref (g 1), .int 0, .int 0, .int 0, .int 0, .int 0, .int 0, .int 0, .int 0, .int 0, .int (-1), .long 0, .long 0, .ref (g 14), .ref (g 15), .ref (g 16), .ref (g 17), .ref (g 18), .ref (g 19), .ref (g 20), .ref (g 21), .ref (g 22), .ref (g 23), .ref (g 24), .ref (g 25), .ref (g 26), .ref (g 27), .ref (g 28), .ref (g 29), .ref (g 30), .ref (g 31), .ref (g 32), .ref (g 33), .ref (g 34), .ref (g 35), .ref (g 36), .ref (g 37), .ref (g 38), .ref (g 39), .ref (g 40), .ref (g 41), .ref (g 42), .ref (g 43), .ref (g 44), .ref (g 45), .ref (g 46), .ref (g 47), .ref (g 48), .ref (g 49), .ref (g 50), .ref (g 51), .ref (g 52), .ref (g 53), .ref (g 54), .ref (g 55), .ref (g 56), .ref (g 57), .ref (g 58), .ref (g 59), .int 0, .int 0, .int 0, .int 0, .int 0, .int 0, .int 0, .int 0, .int 0, .int 0, .ref (g 70)])), (g 54, .inl (cb 54, 6, .inl (fun _ => 0))), (g 56, .inl (cb 56, 78, .inl (fun _ => 0))), (g 55, .inl (cb 55, 6, .inl (fun _ => 0)))]) hD hS hA [0, 1, 2, 3] rfl
      refine va_calli (va_runV (As := [.int (xs (Int32.toNatClampNeg 1)), .int (xs (Int32.toNatClampNeg 2))]) (rest := []) ⟨hx, hb, hml, hown, hts⟩ (c_X12_law l hlt e0 dC dI H.size g cb (xs (Int32.toNatClampNeg 1)) (xs (Int32.toNatClampNeg 2))) (cwV 2 hts gL_law__X12_law rfl rfl rfl (by decide +kernel) ⟨Nat.le_of_ble_eq_true rfl, Nat.le_of_ble_eq_true rfl⟩) (pz_preV [.int (xs (Int32.toNatClampNeg 1)), .int (xs (Int32.toNatClampNeg 2))] hPc hDc hKc hZ hV hT hS hFc (va_recv hKc hPc (ci := 13) (q0 := 0) rfl rfl)) rfl rfl hl.1 rfl (lv_room (Nat.le_of_ble_eq_true rfl)) dL_law__775 ⟨Nat.le_of_ble_eq_true rfl, Nat.le_of_ble_eq_true rfl⟩) hS (fun q _ h => hFc q h) hFc (fun r_10 u_11 t H locs ht hvm hw_12 hB_13 hz1 hk1 hS => ?_)
      obtain ⟨hP1, hD1⟩ := hB_13
      rw [ht] at hP1
      obtain ⟨hP, hD⟩ := va_join (wr := [(qo, .inl (cO, 1, .inr (.inl u_4)))]) (w1 := [(g 0, .inr (13, u_11))]) hP hD [0, 1, 2, 3] [4] rfl rfl (by decide) (by decide) hk1 hFc hP1 hD1
      have hP : va_P (dC, dI) vwCl [(qo, .inl (cO, 1, .inr (.inl u_4))), (g 0, .inr (13, u_11))] H := hP
      have hD : va_D A [(qo, .inl (cO, 1, .inr (.inl u_4))), (g 0, .inr (13, u_11))] := hD
      rcases hw_12 with ⟨hC2, hfs⟩ | ⟨hC2, hfs, rfl⟩
      ·
        refine lv_istore (lv' := [(6, .int r_10), (5, .int 1), (4, .int 0), (3, .ref qo), (2, .ref (g 0)), (1, .ref (h 0)), (0, .ref b)]) hx hb dL_law__778 hl (by decide) rfl (fun ls hl => ?_)
        refine lv_aload_n hx hb dL_law__780 rfl (lv_at hl 4 rfl) ?_
        have hPc := hP.sub (ws' := [(g 0, .inr (13, u_11))]) [1] rfl
        have hDc := hD.sub (ws' := [(g 0, .inr (13, u_11))]) [1] (by decide) rfl
        have hKc := hK.sub (tys' := []) [] rfl
        have hFc := va_free (wc := [(g 0, .inr (13, u_11))]) hD hS hA [1] rfl
        refine va_calli (va_runV (As := []) (rest := []) ⟨hx, hb, hml, hown, hts⟩ (c_X12_thrown l hlt e0 dC dI H.size (g 0) u_11 1 hfs) (cwV 0 hts gL_law__X12_thrown rfl rfl rfl (by decide +kernel) ⟨Nat.le_of_ble_eq_true rfl, Nat.le_of_ble_eq_true rfl⟩) (pz_preV [] hPc hDc hKc hZ hV hT hS hFc (va_recv hKc hPc (ci := 13) (q0 := 0) rfl rfl)) rfl rfl hl.1 rfl (lv_room (Nat.le_of_ble_eq_true rfl)) dL_law__781 ⟨Nat.le_of_ble_eq_true rfl, Nat.le_of_ble_eq_true rfl⟩) hS (fun q _ h => hFc q h) hFc (fun r_14 u_15 t H locs ht hvm hw_16 hB_17 hz1 hk1 hS => ?_)
        obtain ⟨hP, hD⟩ := pz_rest (wr := [(qo, .inl (cO, 1, .inr (.inl u_4)))]) hP hD [1] [0] rfl rfl (by decide) (by decide) hk1 hFc
        subst hw_16
        refine lv_iload hx hb dL_law__784 (lv_at hl 1 rfl) ?_
        refine lv_icmp_eq (tgt := 791) hx hb dL_law__786 (by decide) (fun c_18 => ?_) (fun c_18 => ?_)
        rotate_left
        · exact absurd c_18 (by decide)
        refine lv_iload hx hb dL_law__791 (lv_at hl 1 rfl) ?_
        refine lv_if_ne (tgt := 808) hx hb dL_law__793 (by decide) (fun c_19 => ?_) (fun c_19 => ?_)
        rotate_left
        · exact absurd c_19 (by decide)
        refine lv_goto (tgt := 1743) hx hb dL_law__808 (by decide) ?_
        exact lc_end l C0 (Nat.le_of_ble_eq_true rfl) (Nat.le_of_ble_eq_true rfl) hAe hS ls (lv_sub hl [2, 6] rfl)
      ·
        exact absurd hC hC2
    ·
      refine lv_istore (lv' := [(5, .int 0), (4, .int 0), (3, .ref qo), (2, .ref (g 0)), (1, .ref (h 0)), (0, .ref b)]) hx hb dL_law__760 hl (by decide) rfl (fun ls hl => ?_)
      refine lv_aload_n hx hb dL_law__762 rfl (lv_at hl 3 rfl) ?_
      refine lv_aload_n hx hb dL_law__763 rfl (lv_at hl 5 rfl) ?_
      refine lv_iload hx hb dL_law__764 (lv_at hl 1 rfl) ?_
      refine lv_iconst (v := 1) hx hb dL_law__766 (by decide) ?_
      refine lv_iadd hx hb dL_law__767 ?_
      refine lv_topi (fun x_20 ex_20 => ?_)
      obtain rfl : x_20 = 1 := ex_20.trans (by decide)
      refine va_sld hx hb hX hbl hbA hS (pz_inK (by decide)) dL_law__768 ?_
      refine lv_aload_n hx hb dL_law__769 rfl (lv_at hl 5 rfl) ?_
      refine lv_iload hx hb dL_law__770 (lv_at hl 1 rfl) ?_
      refine lv_iconst (v := 2) hx hb dL_law__772 (by decide) ?_
      refine lv_iadd hx hb dL_law__773 ?_
      refine lv_topi (fun x_21 ex_21 => ?_)
      obtain rfl : x_21 = 2 := ex_21.trans (by decide)
      refine va_sld hx hb hX hbl hbA hS (pz_inK (by decide)) dL_law__774 ?_
      have hPc := hP.sub (ws' := [(g 0, .inr (13, [.ref (g 1), .int 0, .int 0, .int 0, .int 0, .int 0, .int 0, .int 0, .int 0, .int 0, .int (-1), .long 0, .long 0, .ref (g 14), .ref (g 15), .ref (g 16), .ref (g 17), .ref (g 18), .ref (g 19), .ref (g 20), .ref (g 21), .ref (g 22), .ref (g 23), .ref (g 24), .ref (g 25), .ref (g 26), .ref (g 27), .ref (g 28), .ref (g 29), .ref (g 30), .ref (g 31), .ref (g 32), .ref (g 33), .ref (g 34), .ref (g 35), .ref (g 36), .ref (g 37), .ref (g 38), .ref (g 39), .ref (g 40), .ref (g 41), .ref (g 42), .ref (g 43), .ref (g 44), .ref (g 45), .ref (g 46), .ref (g 47), .ref (g 48), .ref (g 49), .ref (g 50), .ref (g 51), .ref (g 52), .ref (g 53), .ref (g 54), .ref (g 55), .ref (g 56), .ref (g 57), .ref (g 58), .ref (g 59), .int 0, .int 0, .int 0, .int 0, .int 0, .int 0, .int 0, .int 0, .int 0, .int 0, .ref (g 70)])), (g 54, .inl (cb 54, 6, .inl (fun _ => 0))), (g 56, .inl (cb 56, 78, .inl (fun _ => 0))), (g 55, .inl (cb 55, 6, .inl (fun _ => 0)))]) [0, 1, 2, 3] rfl
      have hDc := hD.sub (ws' := [(g 0, .inr (13, [.ref (g 1), .int 0, .int 0, .int 0, .int 0, .int 0, .int 0, .int 0, .int 0, .int 0, .int (-1), .long 0, .long 0, .ref (g 14), .ref (g 15), .ref (g 16), .ref (g 17), .ref (g 18), .ref (g 19), .ref (g 20), .ref (g 21), .ref (g 22), .ref (g 23), .ref (g 24), .ref (g 25), .ref (g 26), .ref (g 27), .ref (g 28), .ref (g 29), .ref (g 30), .ref (g 31), .ref (g 32), .ref (g 33), .ref (g 34), .ref (g 35), .ref (g 36), .ref (g 37), .ref (g 38), .ref (g 39), .ref (g 40), .ref (g 41), .ref (g 42), .ref (g 43), .ref (g 44), .ref (g 45), .ref (g 46), .ref (g 47), .ref (g 48), .ref (g 49), .ref (g 50), .ref (g 51), .ref (g 52), .ref (g 53), .ref (g 54), .ref (g 55), .ref (g 56), .ref (g 57), .ref (g 58), .ref (g 59), .int 0, .int 0, .int 0, .int 0, .int 0, .int 0, .int 0, .int 0, .int 0, .int 0, .ref (g 70)])), (g 54, .inl (cb 54, 6, .inl (fun _ => 0))), (g 56, .inl (cb 56, 78, .inl (fun _ => 0))), (g 55, .inl (cb 55, 6, .inl (fun _ => 0)))]) [0, 1, 2, 3] (by decide) rfl
      have hKc := hK.sub (tys' := [(cb 54, .int), (cb 56, .int), (cb 55, .int)]) [3, 4, 5] rfl
      have hFc := va_free (wc := [(g 0, .inr (13, [.ref (g 1), .int 0, .int 0, .int 0, .int 0, .int 0, .int 0, .int 0, .int 0, .int 0, .int (-1), .long 0, .long 0, .ref (g 14), .ref (g 15), .ref (g 16), .ref (g 17), .ref (g 18), .ref (g 19), .ref (g 20), .ref (g 21), .ref (g 22), .ref (g 23), .ref (g 24), .ref (g 25), .ref (g 26), .ref (g 27), .ref (g 28), .ref (g 29), .ref (g 30), .ref (g 31), .ref (g 32), .ref (g 33), .ref (g 34), .ref (g 35), .ref (g 36), .ref (g 37), .ref (g 38), .ref (g 39), .ref (g 40), .ref (g 41), .ref (g 42), .ref (g 43), .ref (g 44), .ref (g 45), .ref (g 46), .ref (g 47), .ref (g 48), .ref (g 49), .ref (g 50), .ref (g 51), .ref (g 52), .ref (g 53), .ref (g 54), .ref (g 55), .ref (g 56), .ref (g 57), .ref (g 58), .ref (g 59), .int 0, .int 0, .int 0, .int 0, .int 0, .int 0, .int 0, .int 0, .int 0, .int 0, .ref (g 70)])), (g 54, .inl (cb 54, 6, .inl (fun _ => 0))), (g 56, .inl (cb 56, 78, .inl (fun _ => 0))), (g 55, .inl (cb 55, 6, .inl (fun _ => 0)))]) hD hS hA [0, 1, 2, 3] rfl
      refine va_calli (va_runV (As := [.int (xs (Int32.toNatClampNeg 1)), .int (xs (Int32.toNatClampNeg 2))]) (rest := []) ⟨hx, hb, hml, hown, hts⟩ (c_X12_law l hlt e0 dC dI H.size g cb (xs (Int32.toNatClampNeg 1)) (xs (Int32.toNatClampNeg 2))) (cwV 2 hts gL_law__X12_law rfl rfl rfl (by decide +kernel) ⟨Nat.le_of_ble_eq_true rfl, Nat.le_of_ble_eq_true rfl⟩) (pz_preV [.int (xs (Int32.toNatClampNeg 1)), .int (xs (Int32.toNatClampNeg 2))] hPc hDc hKc hZ hV hT hS hFc (va_recv hKc hPc (ci := 13) (q0 := 0) rfl rfl)) rfl rfl hl.1 rfl (lv_room (Nat.le_of_ble_eq_true rfl)) dL_law__775 ⟨Nat.le_of_ble_eq_true rfl, Nat.le_of_ble_eq_true rfl⟩) hS (fun q _ h => hFc q h) hFc (fun r_22 u_23 t H locs ht hvm hw_24 hB_25 hz1 hk1 hS => ?_)
      obtain ⟨hP1, hD1⟩ := hB_25
      rw [ht] at hP1
      obtain ⟨hP, hD⟩ := va_join (wr := [(qo, .inl (cO, 1, .inr (.inl u_4)))]) (w1 := [(g 0, .inr (13, u_23))]) hP hD [0, 1, 2, 3] [4] rfl rfl (by decide) (by decide) hk1 hFc hP1 hD1
      have hP : va_P (dC, dI) vwCl [(qo, .inl (cO, 1, .inr (.inl u_4))), (g 0, .inr (13, u_23))] H := hP
      have hD : va_D A [(qo, .inl (cO, 1, .inr (.inl u_4))), (g 0, .inr (13, u_23))] := hD
      rcases hw_24 with ⟨hC2, hfs⟩ | ⟨hC2, hfs, rfl⟩
      ·
        exact absurd hC2 hC
      ·
        refine lv_istore (lv' := [(6, .int 0), (5, .int 0), (4, .int 0), (3, .ref qo), (2, .ref (g 0)), (1, .ref (h 0)), (0, .ref b)]) hx hb dL_law__778 hl (by decide) rfl (fun ls hl => ?_)
        refine lv_aload_n hx hb dL_law__780 rfl (lv_at hl 4 rfl) ?_
        have hPc := hP.sub (ws' := [(g 0, .inr (13, u_23))]) [1] rfl
        have hDc := hD.sub (ws' := [(g 0, .inr (13, u_23))]) [1] (by decide) rfl
        have hKc := hK.sub (tys' := []) [] rfl
        have hFc := va_free (wc := [(g 0, .inr (13, u_23))]) hD hS hA [1] rfl
        refine va_calli (va_runV (As := []) (rest := []) ⟨hx, hb, hml, hown, hts⟩ (c_X12_thrown l hlt e0 dC dI H.size (g 0) u_23 0 hfs) (cwV 0 hts gL_law__X12_thrown rfl rfl rfl (by decide +kernel) ⟨Nat.le_of_ble_eq_true rfl, Nat.le_of_ble_eq_true rfl⟩) (pz_preV [] hPc hDc hKc hZ hV hT hS hFc (va_recv hKc hPc (ci := 13) (q0 := 0) rfl rfl)) rfl rfl hl.1 rfl (lv_room (Nat.le_of_ble_eq_true rfl)) dL_law__781 ⟨Nat.le_of_ble_eq_true rfl, Nat.le_of_ble_eq_true rfl⟩) hS (fun q _ h => hFc q h) hFc (fun r_26 u_27 t H locs ht hvm hw_28 hB_29 hz1 hk1 hS => ?_)
        obtain ⟨hP, hD⟩ := pz_rest (wr := [(qo, .inl (cO, 1, .inr (.inl u_4)))]) hP hD [1] [0] rfl rfl (by decide) (by decide) hk1 hFc
        subst hw_28
        refine lv_iload hx hb dL_law__784 (lv_at hl 1 rfl) ?_
        refine lv_icmp_eq (tgt := 791) hx hb dL_law__786 (by decide) (fun c_30 => ?_) (fun c_30 => ?_)
        rotate_left
        · exact absurd c_30 (by decide)
        refine lv_iload hx hb dL_law__791 (lv_at hl 1 rfl) ?_
        refine lv_if_ne (tgt := 808) hx hb dL_law__793 (by decide) (fun c_31 => ?_) (fun c_31 => ?_)
        · exact absurd c_31 (by decide)
        refine lv_aload_n hx hb dL_law__796 rfl (lv_at hl 3 rfl) ?_
        refine lv_iconst (v := 0) hx hb dL_law__797 (by decide) ?_
        refine va_lald hx hb hK hP 0 2 rfl rfl (pz_inK (by decide)) dL_law__798 ?_
        rw [hval]
        refine lv_iload hx hb dL_law__799 (lv_at hl 0 rfl) ?_
        refine lv_i2l (v := 0) hx hb dL_law__801 (by decide) ?_
        refine W.lcmp hx hb dL_law__802 ?_
        refine lv_topi (fun x_32 ex_32 => ?_)
        obtain rfl : x_32 = 0 := ex_32.trans (by decide)
        refine lv_if_eq (tgt := 808) hx hb dL_law__803 (by decide) (fun c_33 => ?_) (fun c_33 => ?_)
        rotate_left
        · exact absurd c_33 (by decide)
        refine lv_goto (tgt := 1743) hx hb dL_law__808 (by decide) ?_
        exact lc_end l C0 (Nat.le_of_ble_eq_true rfl) (Nat.le_of_ble_eq_true rfl) hAe hS ls (lv_sub hl [2, 6] rfl)

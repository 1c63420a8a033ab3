theorem dL_law__152 : decode cL_law_ 152 = .ok (.aload_n 1, 1) := by decide +kernel
theorem dL_law__153 : decode cL_law_ 153 = .ok (.aload_n 0, 1) := by decide +kernel
theorem dL_law__154 : decode cL_law_ 154 = .ok (.iload 4, 2) := by decide +kernel
theorem dL_law__156 : decode cL_law_ 156 = .ok (.iconst 1, 1) := by decide +kernel
theorem dL_law__157 : decode cL_law_ 157 = .ok (.iadd, 1) := by decide +kernel
theorem dL_law__158 : decode cL_law_ 158 = .ok (.iaload, 1) := by decide +kernel
theorem dL_law__159 : decode cL_law_ 159 = .ok (.aload_n 0, 1) := by decide +kernel
theorem dL_law__160 : decode cL_law_ 160 = .ok (.iload 4, 2) := by decide +kernel
theorem dL_law__162 : decode cL_law_ 162 = .ok (.iconst 2, 1) := by decide +kernel
theorem dL_law__163 : decode cL_law_ 163 = .ok (.iadd, 1) := by decide +kernel
theorem dL_law__164 : decode cL_law_ 164 = .ok (.iaload, 1) := by decide +kernel
theorem dL_law__165 : decode cL_law_ 165 = .ok (.aload_n 0, 1) := by decide +kernel
theorem dL_law__166 : decode cL_law_ 166 = .ok (.iload 4, 2) := by decide +kernel
theorem dL_law__168 : decode cL_law_ 168 = .ok (.iconst 3, 1) := by decide +kernel
theorem dL_law__169 : decode cL_law_ 169 = .ok (.iadd, 1) := by decide +kernel
theorem dL_law__170 : decode cL_law_ 170 = .ok (.iaload, 1) := by decide +kernel
theorem dL_law__171 : decode cL_law_ 171 = .ok (.aload_n 0, 1) := by decide +kernel
theorem dL_law__172 : decode cL_law_ 172 = .ok (.iload 4, 2) := by decide +kernel
theorem dL_law__174 : decode cL_law_ 174 = .ok (.iconst 4, 1) := by decide +kernel
theorem dL_law__175 : decode cL_law_ 175 = .ok (.iadd, 1) := by decide +kernel
theorem dL_law__176 : decode cL_law_ 176 = .ok (.iaload, 1) := by decide +kernel
theorem dL_law__177 : decode cL_law_ 177 = .ok (.invokevirtual 85, 3) := by decide +kernel
theorem dL_law__180 : decode cL_law_ 180 = .ok (.aload_n 2, 1) := by decide +kernel
theorem dL_law__181 : decode cL_law_ 181 = .ok (.aload_n 0, 1) := by decide +kernel
theorem dL_law__182 : decode cL_law_ 182 = .ok (.iload 4, 2) := by decide +kernel
theorem dL_law__184 : decode cL_law_ 184 = .ok (.iconst 1, 1) := by decide +kernel
theorem dL_law__185 : decode cL_law_ 185 = .ok (.iadd, 1) := by decide +kernel
theorem dL_law__186 : decode cL_law_ 186 = .ok (.iaload, 1) := by decide +kernel
theorem dL_law__187 : decode cL_law_ 187 = .ok (.aload_n 0, 1) := by decide +kernel
theorem dL_law__188 : decode cL_law_ 188 = .ok (.iload 4, 2) := by decide +kernel
theorem dL_law__190 : decode cL_law_ 190 = .ok (.iconst 2, 1) := by decide +kernel
theorem dL_law__191 : decode cL_law_ 191 = .ok (.iadd, 1) := by decide +kernel
theorem dL_law__192 : decode cL_law_ 192 = .ok (.iaload, 1) := by decide +kernel
theorem dL_law__193 : decode cL_law_ 193 = .ok (.aload_n 0, 1) := by decide +kernel
theorem dL_law__194 : decode cL_law_ 194 = .ok (.iload 4, 2) := by decide +kernel
theorem dL_law__196 : decode cL_law_ 196 = .ok (.iconst 3, 1) := by decide +kernel
theorem dL_law__197 : decode cL_law_ 197 = .ok (.iadd, 1) := by decide +kernel
theorem dL_law__198 : decode cL_law_ 198 = .ok (.iaload, 1) := by decide +kernel
theorem dL_law__199 : decode cL_law_ 199 = .ok (.aload_n 0, 1) := by decide +kernel
theorem dL_law__200 : decode cL_law_ 200 = .ok (.iload 4, 2) := by decide +kernel
theorem dL_law__202 : decode cL_law_ 202 = .ok (.iconst 4, 1) := by decide +kernel
theorem dL_law__203 : decode cL_law_ 203 = .ok (.iadd, 1) := by decide +kernel
theorem dL_law__204 : decode cL_law_ 204 = .ok (.iaload, 1) := by decide +kernel
theorem dL_law__205 : decode cL_law_ 205 = .ok (.invokevirtual 88, 3) := by decide +kernel
theorem dL_law__208 : decode cL_law_ 208 = .ok (.if_icmp .eq 1535, 3) := by decide +kernel
set_option maxRecDepth 20000 in
theorem ggL_law__X11_reach : GoodIn wsL_law_ wsX11_reach := goodIn_r _ [134, 16, 135, 136, 137, 138, 139, 140, 141, 142, 143, 144, 145, 146, 15, 147, 148, 149, 150, 2, 151, 152, 153, 154, 155, 156, 157, 158, 159, 160, 161, 162, 163, 164, 165, 166, 167, 39, 168, 169, 170, 171, 11, 12, 172, 173, 174, 175, 14, 176, 177, 36, 37, 38, 40, 41, 42, 43, 44, 45, 46, 47, 48, 49, 178, 179, 180, 181, 182, 183, 184, 185, 186, 187, 188, 189, 190, 191, 192, 193, 194, 195, 196, 197, 198, 199, 200, 201, 202, 203, 204, 205, 206, 207, 208, 209, 210, 211, 212, 213, 214, 215, 216, 217, 218, 219, 220, 221, 222, 223, 224, 225, 226, 227, 228, 229, 230, 231, 232, 233, 234, 235, 236, 237, 1112, 1113, 1114, 1115, 1116, 1117, 1118, 1119, 1120, 1121, 1122, 1123, 1124, 1125, 1216, 1217, 1218, 1219, 1220, 1221, 1222, 1223, 1224, 1225, 1226, 1227, 1228, 1229, 1230, 1231, 1232, 1196, 1197, 1198] (by decide +kernel) (by decide +kernel)
set_option maxRecDepth 20000 in
theorem gL_law__X11_reach : GoodIn wsL_law_ (wsV RL 85 RX11 yX11_reach wsX11_reach) := goodIn_app (goodIn_of _ (by decide +kernel)) ggL_law__X11_reach
set_option maxRecDepth 20000 in
theorem ggL_law__X12_reach : GoodIn wsL_law_ wsX12_reach := goodIn_r _ [241, 242, 243, 83, 84, 85, 86, 1126, 1127, 1128, 1129, 1130, 1131, 1132, 1133, 1134, 1135, 1136, 1137, 1138, 1139, 1140, 1141, 1142, 1143, 1144, 1145, 1146, 1147, 1148, 1149, 1150, 1151, 1152, 1153, 1154, 1155, 1156, 1157, 1158, 1159, 1160, 1161, 1162, 1163, 1164, 1165, 1166, 1167, 1168, 1169, 1170, 1171, 1172, 1173, 1174, 1175, 1176, 1177, 1178, 1179, 1180, 1181, 1182, 1183, 1184, 1185, 1186, 1187, 1188, 1189, 1190, 1191, 1192, 1193, 1194, 1195] (by decide +kernel) (by decide +kernel)
set_option maxRecDepth 20000 in
theorem gL_law__X12_reach : GoodIn wsL_law_ (wsV RL 88 RX12 yX12_reach wsX12_reach) := goodIn_app (goodIn_of _ (by decide +kernel)) ggL_law__X12_reach
set_option maxHeartbeats 8000000 in
set_option maxRecDepth 100000 in
/-- the law's case 0: reach -/
theorem lc_reach {p : Program} {e : Env} {s : State} {m : MethodId} {below : List Frame} {meth : Method} {c : Code} (l : Launch) (hlt : l.stackTraces = false) {b : Nat} {xs : Nat → Int32} (C0 : lw_At p s m meth c b 6 xs) (e0 : Nat) (dC : Nat → ClassId) (dI : Nat → Nat → Nat) (h g : Nat → Nat) (ca cb : Nat → ClassId) (qo : Nat) (cO : ClassId) (fo : Nat → Int64) {A : Nat → Prop} (hAe : (fun q : Nat => s.heap.size ≤ q) = A) {H : Heap} {locs : List Loc} (hK : va_K (dC, dI) vwCl [(cb 14, .int), (cb 15, .int), (cb 16, .int), (cb 17, .int)] s) (hP : va_P (dC, dI) vwCl [(h 0, .inr (12, [.ref (h 1), .ref (h 2), .ref (h 3), .ref (h 4), .ref (h 5), .ref (h 6), .ref (h 8), .ref (h 12), .ref (h 11), .int 0, .int 0, .int (-1), .long 0, .long 0])), (h 1, .inr (0, [.int 0, .ref e0, .int 0])), (g 0, .inr (13, [.ref (g 1), .int 0, .int 0, .int 0, .int 0, .int 0, .int 0, .int 0, .int 0, .int 0, .int (-1), .long 0, .long 0, .ref (g 14), .ref (g 15), .ref (g 16), .ref (g 17), .ref (g 18), .ref (g 19), .ref (g 20), .ref (g 21), .ref (g 22), .ref (g 23), .ref (g 24), .ref (g 25), .ref (g 26), .ref (g 27), .ref (g 28), .ref (g 29), .ref (g 30), .ref (g 31), .ref (g 32), .ref (g 33), .ref (g 34), .ref (g 35), .ref (g 36), .ref (g 37), .ref (g 38), .ref (g 39), .ref (g 40), .ref (g 41), .ref (g 42), .ref (g 43), .ref (g 44), .ref (g 45), .ref (g 46), .ref (g 47), .ref (g 48), .ref (g 49), .ref (g 50), .ref (g 51), .ref (g 52), .ref (g 53), .ref (g 54), .ref (g 55), .ref (g 56), .ref (g 57), .ref (g 58), .ref (g 59), .int 0, .int 0, .int 0, .int 0, .int 0, .int 0, .int 0, .int 0, .int 0, .int 0, .ref (g 70)])), (g 14, .inl (cb 14, 10, .inl (fun _ => 0))), (g 15, .inl (cb 15, 10, .inl (fun _ => 0))), (g 16, .inl (cb 16, 10, .inl (fun _ => 0))), (g 17, .inl (cb 17, 10, .inl (fun _ => 0)))] H) (hD : va_D A [(h 0, .inr (12, [.ref (h 1), .ref (h 2), .ref (h 3), .ref (h 4), .ref (h 5), .ref (h 6), .ref (h 8), .ref (h 12), .ref (h 11), .int 0, .int 0, .int (-1), .long 0, .long 0])), (h 1, .inr (0, [.int 0, .ref e0, .int 0])), (g 0, .inr (13, [.ref (g 1), .int 0, .int 0, .int 0, .int 0, .int 0, .int 0, .int 0, .int 0, .int 0, .int (-1), .long 0, .long 0, .ref (g 14), .ref (g 15), .ref (g 16), .ref (g 17), .ref (g 18), .ref (g 19), .ref (g 20), .ref (g 21), .ref (g 22), .ref (g 23), .ref (g 24), .ref (g 25), .ref (g 26), .ref (g 27), .ref (g 28), .ref (g 29), .ref (g 30), .ref (g 31), .ref (g 32), .ref (g 33), .ref (g 34), .ref (g 35), .ref (g 36), .ref (g 37), .ref (g 38), .ref (g 39), .ref (g 40), .ref (g 41), .ref (g 42), .ref (g 43), .ref (g 44), .ref (g 45), .ref (g 46), .ref (g 47), .ref (g 48), .ref (g 49), .ref (g 50), .ref (g 51), .ref (g 52), .ref (g 53), .ref (g 54), .ref (g 55), .ref (g 56), .ref (g 57), .ref (g 58), .ref (g 59), .int 0, .int 0, .int 0, .int 0, .int 0, .int 0, .int 0, .int 0, .int 0, .int 0, .ref (g 70)])), (g 14, .inl (cb 14, 10, .inl (fun _ => 0))), (g 15, .inl (cb 15, 10, .inl (fun _ => 0))), (g 16, .inl (cb 16, 10, .inl (fun _ => 0))), (g 17, .inl (cb 17, 10, .inl (fun _ => 0)))]) (hS : va_S A s.heap H locs) (hZ : pz_s e0 A s s.heap) (hV : pz_v s) (hT : pz_t A s s.heap) (ls : Array Slot) (hl : lv_has ls 8 [(4, .int 0), (3, .ref qo), (2, .ref (g 0)), (1, .ref (h 0)), (0, .ref b)]) : W p l e room_1 s m #[Value.ref b] below meth c H locs 300 100000 (lw_Z below #[Value.ref b] s) (F0 m 152 ls []) := by
  obtain ⟨hx, hb, hr, hml, hown, hts, hX, hbl, hlocks, hgv⟩ := id C0
  have hown : s.vm.findClass RL = some m.cls := hown
  have hts := fun w h => hts w (wsL_law__in w h)
  have hA : ∀ q : Nat, s.heap.size ≤ q → A q := fun q h => by rw [← hAe]; exact h
  have hbA : ¬ A b := by rw [← hAe]; exact Nat.not_le.mpr hbl
  refine lv_aload_n hx hb dL_law__152 rfl (lv_at hl 3 rfl) ?_
  refine lv_aload_n hx hb dL_law__153 rfl (lv_at hl 4 rfl) ?_
  refine lv_iload hx hb dL_law__154 (lv_at hl 0 rfl) ?_
  refine lv_iconst (v := 1) hx hb dL_law__156 (by decide) ?_
  refine lv_iadd hx hb dL_law__157 ?_
  refine lv_topi (fun x_1 ex_1 => ?_)
  obtain rfl : x_1 = 1 := ex_1.trans (by decide)
  refine va_sld hx hb hX hbl hbA hS (pz_inK (by decide)) dL_law__158 ?_
  refine lv_aload_n hx hb dL_law__159 rfl (lv_at hl 4 rfl) ?_
  refine lv_iload hx hb dL_law__160 (lv_at hl 0 rfl) ?_
  refine lv_iconst (v := 2) hx hb dL_law__162 (by decide) ?_
  refine lv_iadd hx hb dL_law__163 ?_
  refine lv_topi (fun x_2 ex_2 => ?_)
  obtain rfl : x_2 = 2 := ex_2.trans (by decide)
  refine va_sld hx hb hX hbl hbA hS (pz_inK (by decide)) dL_law__164 ?_
  refine lv_aload_n hx hb dL_law__165 rfl (lv_at hl 4 rfl) ?_
  refine lv_iload hx hb dL_law__166 (lv_at hl 0 rfl) ?_
  refine lv_iconst (v := 3) hx hb dL_law__168 (by decide) ?_
  refine lv_iadd hx hb dL_law__169 ?_
  refine lv_topi (fun x_3 ex_3 => ?_)
  obtain rfl : x_3 = 3 := ex_3.trans (by decide)
  refine va_sld hx hb hX hbl hbA hS (pz_inK (by decide)) dL_law__170 ?_
  refine lv_aload_n hx hb dL_law__171 rfl (lv_at hl 4 rfl) ?_
  refine lv_iload hx hb dL_law__172 (lv_at hl 0 rfl) ?_
  refine lv_iconst (v := 4) hx hb dL_law__174 (by decide) ?_
  refine lv_iadd hx hb dL_law__175 ?_
  refine lv_topi (fun x_4 ex_4 => ?_)
  obtain rfl : x_4 = 4 := ex_4.trans (by decide)
  refine va_sld hx hb hX hbl hbA hS (pz_inK (by decide)) dL_law__176 ?_
  have hPc := hP.sub (ws' := [(h 0, .inr (12, [.ref (h 1), .ref (h 2), .ref (h 3), .ref (h 4), .ref (h 5), .ref (h 6), .ref (h 8), .ref (h 12), .ref (h 11), .int 0, .int 0, .int (-1), .long 0, .long 0])), (h 1, .inr (0, [.int 0, .ref e0, .int 0]))]) [0, 1] rfl
  have hDc := hD.sub (ws' := [(h 0, .inr (12, [.ref (h 1), .ref (h 2), .ref (h 3), .ref (h 4), .ref (h 5), .ref (h 6), .ref (h 8), .ref (h 12), .ref (h 11), .int 0, .int 0, .int (-1), .long 0, .long 0])), (h 1, .inr (0, [.int 0, .ref e0, .int 0]))]) [0, 1] (by decide) rfl
  have hKc := hK.sub (tys' := []) [] rfl
  have hFc := va_free (wc := [(h 0, .inr (12, [.ref (h 1), .ref (h 2), .ref (h 3), .ref (h 4), .ref (h 5), .ref (h 6), .ref (h 8), .ref (h 12), .ref (h 11), .int 0, .int 0, .int (-1), .long 0, .long 0])), (h 1, .inr (0, [.int 0, .ref e0, .int 0]))]) hD hS hA [0, 1] rfl
  refine va_calli (va_runV (As := [.int (xs (Int32.toNatClampNeg 1)), .int (xs (Int32.toNatClampNeg 2)), .int (xs (Int32.toNatClampNeg 3)), .int (xs (Int32.toNatClampNeg 4))]) (rest := []) ⟨hx, hb, hml, hown, hts⟩ (c_X11_reach l hlt e0 dC dI H.size h (xs (Int32.toNatClampNeg 1)) (xs (Int32.toNatClampNeg 2)) (xs (Int32.toNatClampNeg 3)) (xs (Int32.toNatClampNeg 4))) (cwV 4 hts gL_law__X11_reach rfl rfl rfl (by decide +kernel) ⟨Nat.le_of_ble_eq_true rfl, Nat.le_of_ble_eq_true rfl⟩) (pz_preV [.int (xs (Int32.toNatClampNeg 1)), .int (xs (Int32.toNatClampNeg 2)), .int (xs (Int32.toNatClampNeg 3)), .int (xs (Int32.toNatClampNeg 4))] hPc hDc hKc hZ hV hT hS hFc (va_recv hKc hPc (ci := 12) (q0 := 0) rfl rfl)) rfl rfl hl.1 rfl (lv_room (Nat.le_of_ble_eq_true rfl)) dL_law__177 ⟨Nat.le_of_ble_eq_true rfl, Nat.le_of_ble_eq_true rfl⟩) hS (fun q _ h => hFc q h) hFc (fun r_5 u_6 t H locs ht hvm hw_7 hB_8 hz1 hk1 hS => ?_)
  obtain ⟨hP, hD⟩ := pz_rest (wr := [(g 0, .inr (13, [.ref (g 1), .int 0, .int 0, .int 0, .int 0, .int 0, .int 0, .int 0, .int 0, .int 0, .int (-1), .long 0, .long 0, .ref (g 14), .ref (g 15), .ref (g 16), .ref (g 17), .ref (g 18), .ref (g 19), .ref (g 20), .ref (g 21), .ref (g 22), .ref (g 23), .ref (g 24), .ref (g 25), .ref (g 26), .ref (g 27), .ref (g 28), .ref (g 29), .ref (g 30), .ref (g 31), .ref (g 32), .ref (g 33), .ref (g 34), .ref (g 35), .ref (g 36), .ref (g 37), .ref (g 38), .ref (g 39), .ref (g 40), .ref (g 41), .ref (g 42), .ref (g 43), .ref (g 44), .ref (g 45), .ref (g 46), .ref (g 47), .ref (g 48), .ref (g 49), .ref (g 50), .ref (g 51), .ref (g 52), .ref (g 53), .ref (g 54), .ref (g 55), .ref (g 56), .ref (g 57), .ref (g 58), .ref (g 59), .int 0, .int 0, .int 0, .int 0, .int 0, .int 0, .int 0, .int 0, .int 0, .int 0, .ref (g 70)])), (g 14, .inl (cb 14, 10, .inl (fun _ => 0))), (g 15, .inl (cb 15, 10, .inl (fun _ => 0))), (g 16, .inl (cb 16, 10, .inl (fun _ => 0))), (g 17, .inl (cb 17, 10, .inl (fun _ => 0)))]) hP hD [0, 1] [2, 3, 4, 5, 6] rfl rfl (by decide) (by decide) hk1 hFc
  rcases hw_7 with ⟨hC, rfl⟩ | ⟨hC, rfl⟩
  ·
    refine lv_aload_n hx hb dL_law__180 rfl (lv_at hl 2 rfl) ?_
    refine lv_aload_n hx hb dL_law__181 rfl (lv_at hl 4 rfl) ?_
    refine lv_iload hx hb dL_law__182 (lv_at hl 0 rfl) ?_
    refine lv_iconst (v := 1) hx hb dL_law__184 (by decide) ?_
    refine lv_iadd hx hb dL_law__185 ?_
    refine lv_topi (fun x_9 ex_9 => ?_)
    obtain rfl : x_9 = 1 := ex_9.trans (by decide)
    refine va_sld hx hb hX hbl hbA hS (pz_inK (by decide)) dL_law__186 ?_
    refine lv_aload_n hx hb dL_law__187 rfl (lv_at hl 4 rfl) ?_
    refine lv_iload hx hb dL_law__188 (lv_at hl 0 rfl) ?_
    refine lv_iconst (v := 2) hx hb dL_law__190 (by decide) ?_
    refine lv_iadd hx hb dL_law__191 ?_
    refine lv_topi (fun x_10 ex_10 => ?_)
    obtain rfl : x_10 = 2 := ex_10.trans (by decide)
    refine va_sld hx hb hX hbl hbA hS (pz_inK (by decide)) dL_law__192 ?_
    refine lv_aload_n hx hb dL_law__193 rfl (lv_at hl 4 rfl) ?_
    refine lv_iload hx hb dL_law__194 (lv_at hl 0 rfl) ?_
    refine lv_iconst (v := 3) hx hb dL_law__196 (by decide) ?_
    refine lv_iadd hx hb dL_law__197 ?_
    refine lv_topi (fun x_11 ex_11 => ?_)
    obtain rfl : x_11 = 3 := ex_11.trans (by decide)
    refine va_sld hx hb hX hbl hbA hS (pz_inK (by decide)) dL_law__198 ?_
    refine lv_aload_n hx hb dL_law__199 rfl (lv_at hl 4 rfl) ?_
    refine lv_iload hx hb dL_law__200 (lv_at hl 0 rfl) ?_
    refine lv_iconst (v := 4) hx hb dL_law__202 (by decide) ?_
    refine lv_iadd hx hb dL_law__203 ?_
    refine lv_topi (fun x_12 ex_12 => ?_)
    obtain rfl : x_12 = 4 := ex_12.trans (by decide)
    refine va_sld hx hb hX hbl hbA hS (pz_inK (by decide)) dL_law__204 ?_
    have hPc := hP.sub (ws' := [(g 0, .inr (13, [.ref (g 1), .int 0, .int 0, .int 0, .int 0, .int 0, .int 0, .int 0, .int 0, .int 0, .int (-1), .long 0, .long 0, .ref (g 14), .ref (g 15), .ref (g 16), .ref (g 17), .ref (g 18), .ref (g 19), .ref (g 20), .ref (g 21), .ref (g 22), .ref (g 23), .ref (g 24), .ref (g 25), .ref (g 26), .ref (g 27), .ref (g 28), .ref (g 29), .ref (g 30), .ref (g 31), .ref (g 32), .ref (g 33), .ref (g 34), .ref (g 35), .ref (g 36), .ref (g 37), .ref (g 38), .ref (g 39), .ref (g 40), .ref (g 41), .ref (g 42), .ref (g 43), .ref (g 44), .ref (g 45), .ref (g 46), .ref (g 47), .ref (g 48), .ref (g 49), .ref (g 50), .ref (g 51), .ref (g 52), .ref (g 53), .ref (g 54), .ref (g 55), .ref (g 56), .ref (g 57), .ref (g 58), .ref (g 59), .int 0, .int 0, .int 0, .int 0, .int 0, .int 0, .int 0, .int 0, .int 0, .int 0, .ref (g 70)])), (g 14, .inl (cb 14, 10, .inl (fun _ => 0))), (g 15, .inl (cb 15, 10, .inl (fun _ => 0))), (g 16, .inl (cb 16, 10, .inl (fun _ => 0))), (g 17, .inl (cb 17, 10, .inl (fun _ => 0)))]) [0, 1, 2, 3, 4] rfl
    have hDc := hD.sub (ws' := [(g 0, .inr (13, [.ref (g 1), .int 0, .int 0, .int 0, .int 0, .int 0, .int 0, .int 0, .int 0, .int 0, .int (-1), .long 0, .long 0, .ref (g 14), .ref (g 15), .ref (g 16), .ref (g 17), .ref (g 18), .ref (g 19), .ref (g 20), .ref (g 21), .ref (g 22), .ref (g 23), .ref (g 24), .ref (g 25), .ref (g 26), .ref (g 27), .ref (g 28), .ref (g 29), .ref (g 30), .ref (g 31), .ref (g 32), .ref (g 33), .ref (g 34), .ref (g 35), .ref (g 36), .ref (g 37), .ref (g 38), .ref (g 39), .ref (g 40), .ref (g 41), .ref (g 42), .ref (g 43), .ref (g 44), .ref (g 45), .ref (g 46), .ref (g 47), .ref (g 48), .ref (g 49), .ref (g 50), .ref (g 51), .ref (g 52), .ref (g 53), .ref (g 54), .ref (g 55), .ref (g 56), .ref (g 57), .ref (g 58), .ref (g 59), .int 0, .int 0, .int 0, .int 0, .int 0, .int 0, .int 0, .int 0, .int 0, .int 0, .ref (g 70)])), (g 14, .inl (cb 14, 10, .inl (fun _ => 0))), (g 15, .inl (cb 15, 10, .inl (fun _ => 0))), (g 16, .inl (cb 16, 10, .inl (fun _ => 0))), (g 17, .inl (cb 17, 10, .inl (fun _ => 0)))]) [0, 1, 2, 3, 4] (by decide) rfl
    have hKc := hK.sub (tys' := [(cb 14, .int), (cb 15, .int), (cb 16, .int), (cb 17, .int)]) [0, 1, 2, 3] rfl
    have hFc := va_free (wc := [(g 0, .inr (13, [.ref (g 1), .int 0, .int 0, .int 0, .int 0, .int 0, .int 0, .int 0, .int 0, .int 0, .int (-1), .long 0, .long 0, .ref (g 14), .ref (g 15), .ref (g 16), .ref (g 17), .ref (g 18), .ref (g 19), .ref (g 20), .ref (g 21), .ref (g 22), .ref (g 23), .ref (g 24), .ref (g 25), .ref (g 26), .ref (g 27), .ref (g 28), .ref (g 29), .ref (g 30), .ref (g 31), .ref (g 32), .ref (g 33), .ref (g 34), .ref (g 35), .ref (g 36), .ref (g 37), .ref (g 38), .ref (g 39), .ref (g 40), .ref (g 41), .ref (g 42), .ref (g 43), .ref (g 44), .ref (g 45), .ref (g 46), .ref (g 47), .ref (g 48), .ref (g 49), .ref (g 50), .ref (g 51), .ref (g 52), .ref (g 53), .ref (g 54), .ref (g 55), .ref (g 56), .ref (g 57), .ref (g 58), .ref (g 59), .int 0, .int 0, .int 0, .int 0, .int 0, .int 0, .int 0, .int 0, .int 0, .int 0, .ref (g 70)])), (g 14, .inl (cb 14, 10, .inl (fun _ => 0))), (g 15, .inl (cb 15, 10, .inl (fun _ => 0))), (g 16, .inl (cb 16, 10, .inl (fun _ => 0))), (g 17, .inl (cb 17, 10, .inl (fun _ => 0)))]) hD hS hA [0, 1, 2, 3, 4] rfl
    refine va_calli (va_runV (As := [.int (xs (Int32.toNatClampNeg 1)), .int (xs (Int32.toNatClampNeg 2)), .int (xs (Int32.toNatClampNeg 3)), .int (xs (Int32.toNatClampNeg 4))]) (rest := [.int 0]) ⟨hx, hb, hml, hown, hts⟩ (c_X12_reach l hlt e0 dC dI H.size g cb (xs (Int32.toNatClampNeg 1)) (xs (Int32.toNatClampNeg 2)) (xs (Int32.toNatClampNeg 3)) (xs (Int32.toNatClampNeg 4))) (cwV 4 hts gL_law__X12_reach rfl rfl rfl (by decide +kernel) ⟨Nat.le_of_ble_eq_true rfl, Nat.le_of_ble_eq_true rfl⟩) (pz_preV [.int (xs (Int32.toNatClampNeg 1)), .int (xs (Int32.toNatClampNeg 2)), .int (xs (Int32.toNatClampNeg 3)), .int (xs (Int32.toNatClampNeg 4))] hPc hDc hKc hZ hV hT hS hFc (va_recv hKc hPc (ci := 13) (q0 := 0) rfl rfl)) rfl rfl hl.1 rfl (lv_room (Nat.le_of_ble_eq_true rfl)) dL_law__205 ⟨Nat.le_of_ble_eq_true rfl, Nat.le_of_ble_eq_true rfl⟩) hS (fun q _ h => hFc q h) hFc (fun r_13 u_14 t H locs ht hvm hw_15 hB_16 hz1 hk1 hS => ?_)
    obtain ⟨hP, hD⟩ := pz_rest (wr := []) hP hD [0, 1, 2, 3, 4] [] rfl rfl (by decide) (by decide) hk1 hFc
    rcases hw_15 with ⟨hC2, rfl⟩ | ⟨hC2, rfl⟩
    ·
      refine lv_icmp_eq (tgt := 1743) hx hb dL_law__208 (by decide) (fun c_17 => ?_) (fun c_17 => ?_)
      rotate_left
      · exact absurd c_17 (by decide)
      exact lc_end l C0 (Nat.le_of_ble_eq_true rfl) (Nat.le_of_ble_eq_true rfl) hAe hS ls (lv_sub hl [0, 4] rfl)
    ·
      exact absurd hC hC2
  ·
    refine lv_aload_n hx hb dL_law__180 rfl (lv_at hl 2 rfl) ?_
    refine lv_aload_n hx hb dL_law__181 rfl (lv_at hl 4 rfl) ?_
    refine lv_iload hx hb dL_law__182 (lv_at hl 0 rfl) ?_
    refine lv_iconst (v := 1) hx hb dL_law__184 (by decide) ?_
    refine lv_iadd hx hb dL_law__185 ?_
    refine lv_topi (fun x_18 ex_18 => ?_)
    obtain rfl : x_18 = 1 := ex_18.trans (by decide)
    refine va_sld hx hb hX hbl hbA hS (pz_inK (by decide)) dL_law__186 ?_
    refine lv_aload_n hx hb dL_law__187 rfl (lv_at hl 4 rfl) ?_
    refine lv_iload hx hb dL_law__188 (lv_at hl 0 rfl) ?_
    refine lv_iconst (v := 2) hx hb dL_law__190 (by decide) ?_
    refine lv_iadd hx hb dL_law__191 ?_
    refine lv_topi (fun x_19 ex_19 => ?_)
    obtain rfl : x_19 = 2 := ex_19.trans (by decide)
    refine va_sld hx hb hX hbl hbA hS (pz_inK (by decide)) dL_law__192 ?_
    refine lv_aload_n hx hb dL_law__193 rfl (lv_at hl 4 rfl) ?_
    refine lv_iload hx hb dL_law__194 (lv_at hl 0 rfl) ?_
    refine lv_iconst (v := 3) hx hb dL_law__196 (by decide) ?_
    refine lv_iadd hx hb dL_law__197 ?_
    refine lv_topi (fun x_20 ex_20 => ?_)
    obtain rfl : x_20 = 3 := ex_20.trans (by decide)
    refine va_sld hx hb hX hbl hbA hS (pz_inK (by decide)) dL_law__198 ?_
    refine lv_aload_n hx hb dL_law__199 rfl (lv_at hl 4 rfl) ?_
    refine lv_iload hx hb dL_law__200 (lv_at hl 0 rfl) ?_
    refine lv_iconst (v := 4) hx hb dL_law__202 (by decide) ?_
    refine lv_iadd hx hb dL_law__203 ?_
    refine lv_topi (fun x_21 ex_21 => ?_)
    obtain rfl : x_21 = 4 := ex_21.trans (by decide)
    refine va_sld hx hb hX hbl hbA hS (pz_inK (by decide)) dL_law__204 ?_
    have hPc := hP.sub (ws' := [(g 0, .inr (13, [.ref (g 1), .int 0, .int 0, .int 0, .int 0, .int 0, .int 0, .int 0, .int 0, .int 0, .int (-1), .long 0, .long 0, .ref (g 14), .ref (g 15), .ref (g 16), .ref (g 17), .ref (g 18), .ref (g 19), .ref (g 20), .ref (g 21), .ref (g 22), .ref (g 23), .ref (g 24), .ref (g 25), .ref (g 26), .ref (g 27), .ref (g 28), .ref (g 29), .ref (g 30), .ref (g 31), .ref (g 32), .ref (g 33), .ref (g 34), .ref (g 35), .ref (g 36), .ref (g 37), .ref (g 38), .ref (g 39), .ref (g 40), .ref (g 41), .ref (g 42), .ref (g 43), .ref (g 44), .ref (g 45), .ref (g 46), .ref (g 47), .ref (g 48), .ref (g 49), .ref (g 50), .ref (g 51), .ref (g 52), .ref (g 53), .ref (g 54), .ref (g 55), .ref (g 56), .ref (g 57), .ref (g 58), .ref (g 59), .int 0, .int 0, .int 0, .int 0, .int 0, .int 0, .int 0, .int 0, .int 0, .int 0, .ref (g 70)])), (g 14, .inl (cb 14, 10, .inl (fun _ => 0))), (g 15, .inl (cb 15, 10, .inl (fun _ => 0))), (g 16, .inl (cb 16, 10, .inl (fun _ => 0))), (g 17, .inl (cb 17, 10, .inl (fun _ => 0)))]) [0, 1, 2, 3, 4] rfl
    have hDc := hD.sub (ws' := [(g 0, .inr (13, [.ref (g 1), .int 0, .int 0, .int 0, .int 0, .int 0, .int 0, .int 0, .int 0, .int 0, .int (-1), .long 0, .long 0, .ref (g 14), .ref (g 15), .ref (g 16), .ref (g 17), .ref (g 18), .ref (g 19), .ref (g 20), .ref (g 21), .ref (g 22), .ref (g 23), .ref (g 24), .ref (g 25), .ref (g 26), .ref (g 27), .ref (g 28), .ref (g 29), .ref (g 30), .ref (g 31), .ref (g 32), .ref (g 33), .ref (g 34), .ref (g 35), .ref (g 36), .ref (g 37), .ref (g 38), .ref (g 39), .ref (g 40), .ref (g 41), .ref (g 42), .ref (g 43), .ref (g 44), .ref (g 45), .ref (g 46), .ref (g 47), .ref (g 48), .ref (g 49), .ref (g 50), .ref (g 51), .ref (g 52), .ref (g 53), .ref (g 54), .ref (g 55), .ref (g 56), .ref (g 57), .ref (g 58), .ref (g 59), .int 0, .int 0, .int 0, .int 0, .int 0, .int 0, .int 0, .int 0, .int 0, .int 0, .ref (g 70)])), (g 14, .inl (cb 14, 10, .inl (fun _ => 0))), (g 15, .inl (cb 15, 10, .inl (fun _ => 0))), (g 16, .inl (cb 16, 10, .inl (fun _ => 0))), (g 17, .inl (cb 17, 10, .inl (fun _ => 0)))]) [0, 1, 2, 3, 4] (by decide) rfl
    have hKc := hK.sub (tys' := [(cb 14, .int), (cb 15, .int), (cb 16, .int), (cb 17, .int)]) [0, 1, 2, 3] rfl
    have hFc := va_free (wc := [(g 0, .inr (13, [.ref (g 1), .int 0, .int 0, .int 0, .int 0, .int 0, .int 0, .int 0, .int 0, .int 0, .int (-1), .long 0, .long 0, .ref (g 14), .ref (g 15), .ref (g 16), .ref (g 17), .ref (g 18), .ref (g 19), .ref (g 20), .ref (g 21), .ref (g 22), .ref (g 23), .ref (g 24), .ref (g 25), .ref (g 26), .ref (g 27), .ref (g 28), .ref (g 29), .ref (g 30), .ref (g 31), .ref (g 32), .ref (g 33), .ref (g 34), .ref (g 35), .ref (g 36), .ref (g 37), .ref (g 38), .ref (g 39), .ref (g 40), .ref (g 41), .ref (g 42), .ref (g 43), .ref (g 44), .ref (g 45), .ref (g 46), .ref (g 47), .ref (g 48), .ref (g 49), .ref (g 50), .ref (g 51), .ref (g 52), .ref (g 53), .ref (g 54), .ref (g 55), .ref (g 56), .ref (g 57), .ref (g 58), .ref (g 59), .int 0, .int 0, .int 0, .int 0, .int 0, .int 0, .int 0, .int 0, .int 0, .int 0, .ref (g 70)])), (g 14, .inl (cb 14, 10, .inl (fun _ => 0))), (g 15, .inl (cb 15, 10, .inl (fun _ => 0))), (g 16, .inl (cb 16, 10, .inl (fun _ => 0))), (g 17, .inl (cb 17, 10, .inl (fun _ => 0)))]) hD hS hA [0, 1, 2, 3, 4] rfl
    refine va_calli (va_runV (As := [.int (xs (Int32.toNatClampNeg 1)), .int (xs (Int32.toNatClampNeg 2)), .int (xs (Int32.toNatClampNeg 3)), .int (xs (Int32.toNatClampNeg 4))]) (rest := [.int (-1)]) ⟨hx, hb, hml, hown, hts⟩ (c_X12_reach l hlt e0 dC dI H.size g cb (xs (Int32.toNatClampNeg 1)) (xs (Int32.toNatClampNeg 2)) (xs (Int32.toNatClampNeg 3)) (xs (Int32.toNatClampNeg 4))) (cwV 4 hts gL_law__X12_reach rfl rfl rfl (by decide +kernel) ⟨Nat.le_of_ble_eq_true rfl, Nat.le_of_ble_eq_true rfl⟩) (pz_preV [.int (xs (Int32.toNatClampNeg 1)), .int (xs (Int32.toNatClampNeg 2)), .int (xs (Int32.toNatClampNeg 3)), .int (xs (Int32.toNatClampNeg 4))] hPc hDc hKc hZ hV hT hS hFc (va_recv hKc hPc (ci := 13) (q0 := 0) rfl rfl)) rfl rfl hl.1 rfl (lv_room (Nat.le_of_ble_eq_true rfl)) dL_law__205 ⟨Nat.le_of_ble_eq_true rfl, Nat.le_of_ble_eq_true rfl⟩) hS (fun q _ h => hFc q h) hFc (fun r_22 u_23 t H locs ht hvm hw_24 hB_25 hz1 hk1 hS => ?_)
    obtain ⟨hP, hD⟩ := pz_rest (wr := []) hP hD [0, 1, 2, 3, 4] [] rfl rfl (by decide) (by decide) hk1 hFc
    rcases hw_24 with ⟨hC2, rfl⟩ | ⟨hC2, rfl⟩
    ·
      exact absurd hC2 hC
    ·
      refine lv_icmp_eq (tgt := 1743) hx hb dL_law__208 (by decide) (fun c_26 => ?_) (fun c_26 => ?_)
      rotate_left
      · exact absurd c_26 (by decide)
      exact lc_end l C0 (Nat.le_of_ble_eq_true rfl) (Nat.le_of_ble_eq_true rfl) hAe hS ls (lv_sub hl [0, 4] rfl)

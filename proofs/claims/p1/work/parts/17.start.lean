theorem pz_strOf {s : State} {args : Array Value} {A : Nat → Prop} {own tx : String} {k : Nat} (h1 : (Cond.stringRef own k tx).before args s = true) (h2 : (Cond.exactly (.string own k) "java/lang/String").before args s = true) (hnA : ∀ a : Nat, a < s.heap.size → ¬ A a) : ∃ a : Nat, vk_R own k tx a s ∧ ¬ A a ∧ ∃ cell : Cell, s.heap[a]? = some cell ∧ cell.vm.isStatics = false ∧ s.vm.findClass "java/lang/String" = some cell.cls := by
  obtain ⟨a, c, cA, kA, q1, q2, q3, q4, q5, q6, -⟩ := Cond.exactly_spec (args := args) (first := s) (o := none) (s := s) (idx := []) (t := .string own k) (cls := "java/lang/String") h2
  exact ⟨a, vk_R.of h1 q1, hnA a (Array.getElem?_eq_some_iff.mp q3).1, cA, q3, q5, by rw [q6]; exact q2⟩
theorem pz_AOof {C : String} {A : Array Value} {U : State} (h : (Cond.arrayOver (.object C)).before A U = true) : va_AO C U := va_AO.of h
/-- what the Statement's start gives -/
theorem pz_begin {s : State} {args : Array Value} {A : Nat → Prop} (hts : ∀ w ∈ lw_tbl, w.before args s = true) (hgv : (Jvm.Cond.and given_1 narrow_1).before args s = true) (hnA : ∀ a : Nat, a < s.heap.size → ¬ A a) : ∃ e0 : Nat, pz_s e0 A s s.heap ∧ pz_v s ∧ pz_t A s s.heap := by
  have hs := flat_of_before _ hgv
  have hlen : (Term.length (.static "java/util/ArrayList" "DEFAULTCAPACITY_EMPTY_ELEMENTDATA" "[Ljava/lang/Object;")).eval args s none [] s = some (.int (Int32.ofNat 0)) := va_eqt (hs (.eq (.length (.static "java/util/ArrayList" "DEFAULTCAPACITY_EMPTY_ELEMENTDATA" "[Ljava/lang/Object;")) (.int 0)) (by decide +kernel))
  obtain ⟨e0, he0, hTe⟩ := va_Tof (args := args) (s := s) (tm := .static "java/util/ArrayList" "DEFAULTCAPACITY_EMPTY_ELEMENTDATA" "[Ljava/lang/Object;") (ty := .object "java/lang/Object") (N := 0) (f := fun _ => .null) (A := A) (by decide) (hs (.arrayOf (.static "java/util/ArrayList" "DEFAULTCAPACITY_EMPTY_ELEMENTDATA" "[Ljava/lang/Object;") (.object "java/lang/Object")) (by decide +kernel)) hlen (fun j hj => absurd hj (Nat.not_lt_zero j)) hnA
  have hstr : ∀ (own tx : String) (k : Nat), Cond.stringRef own k tx ∈ lw_tbl → Cond.exactly (.string own k) "java/lang/String" ∈ flatC (Jvm.Cond.and given_1 narrow_1) → ∃ a : Nat, vk_R own k tx a s ∧ ¬ A a ∧ ∃ cell : Cell, s.heap[a]? = some cell ∧ cell.vm.isStatics = false ∧ s.vm.findClass "java/lang/String" = some cell.cls := by
    intro own tx k h1 h2
    exact pz_strOf (hts _ h1) (hs _ h2) hnA
  refine ⟨e0, ⟨va_Zref (hts _ (by decide +kernel)) (hts _ (by decide +kernel)) he0 hnA, hTe, vx_Zqof (hts _ (by decide +kernel)) (hts _ (by decide +kernel)) (hs _ (by decide +kernel)) hnA, vx_Zqof (hts _ (by decide +kernel)) (hts _ (by decide +kernel)) (hs _ (by decide +kernel)) hnA⟩, ⟨?_, ?_, ?_, ?_, ?_⟩, ?_⟩
  · have k1 : ∀ q ∈ pz_strs, Cond.stringRef q.1 q.2.1 q.2.2 ∈ lw_tbl := by decide +kernel
    have k2 : ∀ q ∈ pz_strs, Cond.exactly (.string q.1 q.2.1) "java/lang/String" ∈ flatC (Jvm.Cond.and given_1 narrow_1) := by decide +kernel
    intro q hq
    obtain ⟨a, ha, -⟩ := hstr _ _ _ (k1 q hq) (k2 q hq)
    exact ⟨a, ha⟩
  · exact va_Fw.of (hts _ (by decide +kernel)) (hts _ (by decide +kernel)) (hts _ (by decide +kernel)) (hts _ (by decide +kernel)) (hts _ (by decide +kernel))
  · exact va_Fw.of (hts _ (by decide +kernel)) (hts _ (by decide +kernel)) (hts _ (by decide +kernel)) (hts _ (by decide +kernel)) (hts _ (by decide +kernel))
  · exact ⟨va_any rfl (hts _ (by decide +kernel)), va_any rfl (hts _ (by decide +kernel)), va_any rfl (hts _ (by decide +kernel)), va_any rfl (hts _ (by decide +kernel)), va_any rfl (hts _ (by decide +kernel))⟩
  · obtain ⟨mi, hmi⟩ := va_Mi.of (C := "[Ljava/lang/Object;") (hs _ (by decide +kernel))
    exact ⟨pz_AOof (hts _ (by decide +kernel)), pz_AOof (hts _ (by decide +kernel)), va_Nw.of rfl (hts _ (by decide +kernel)), va_Nw.of rfl (hts _ (by decide +kernel)), va_Nw.of rfl (hts _ (by decide +kernel)), va_Nw.of rfl (hts _ (by decide +kernel)), va_Dc.of (hts _ (by decide +kernel)), mi, hmi⟩
  · have k1 : ∀ q ∈ pz_strM, Cond.stringRef q.1 q.2.1 q.2.2 ∈ lw_tbl := by decide +kernel
    have k2 : ∀ q ∈ pz_strM, Cond.exactly (.string q.1 q.2.1) "java/lang/String" ∈ flatC (Jvm.Cond.and given_1 narrow_1) := by decide +kernel
    intro q hq
    exact hstr _ _ _ (k1 q hq) (k2 q hq)
theorem dL_law__0 : decode cL_law_ 0 = .ok (.new 8, 3) := by decide +kernel
theorem dL_law__3 : decode cL_law_ 3 = .ok (.dup, 1) := by decide +kernel
theorem dL_law__4 : decode cL_law_ 4 = .ok (.invokespecial 81, 3) := by decide +kernel
theorem dL_law__7 : decode cL_law_ 7 = .ok (.astore_n 1, 1) := by decide +kernel
theorem dL_law__8 : decode cL_law_ 8 = .ok (.new 82, 3) := by decide +kernel
theorem dL_law__11 : decode cL_law_ 11 = .ok (.dup, 1) := by decide +kernel
theorem dL_law__12 : decode cL_law_ 12 = .ok (.invokespecial 84, 3) := by decide +kernel
theorem dL_law__15 : decode cL_law_ 15 = .ok (.astore_n 2, 1) := by decide +kernel
theorem dL_law__16 : decode cL_law_ 16 = .ok (.iconst 1, 1) := by decide +kernel
theorem dL_law__17 : decode cL_law_ 17 = .ok (.newarray .long, 2) := by decide +kernel
theorem dL_law__19 : decode cL_law_ 19 = .ok (.astore_n 3, 1) := by decide +kernel
theorem dL_law__20 : decode cL_law_ 20 = .ok (.iconst 0, 1) := by decide +kernel
theorem dL_law__21 : decode cL_law_ 21 = .ok (.istore 4, 2) := by decide +kernel
theorem dL_law__33 : decode cL_law_ 33 = .ok (.aload_n 0, 1) := by decide +kernel
theorem dL_law__34 : decode cL_law_ 34 = .ok (.iload 4, 2) := by decide +kernel
theorem dL_law__36 : decode cL_law_ 36 = .ok (.iaload, 1) := by decide +kernel
theorem dL_law__37 : decode cL_law_ 37 = .ok (.bipush 31, 2) := by decide +kernel
theorem dL_law__39 : decode cL_law_ 39 = .ok (.iand, 1) := by decide +kernel
theorem dL_law__40 : decode cL_law_ 40 = .ok (.tableswitch 1703 0 23 #[112, 173, 248, 316, 384, 471, 562, 630, 703, 771, 784, 833, 913, 969, 1061, 1117, 1185, 1265, 1345, 1413, 1481, 1536, 1592, 1647], 112) := by decide +kernel
set_option maxRecDepth 20000 in
theorem ggL_law__X11_init : GoodIn wsL_law_ wsX11_init := goodIn_r _ [9, 10, 11, 12, 13, 14, 15, 16, 17, 18, 19, 20, 21, 22, 23, 24, 25, 26, 27, 28, 29, 30, 31, 32, 6, 33, 34, 35, 36, 37, 38, 39, 40, 41, 42, 43, 44, 45, 46, 47, 48, 49, 50, 51, 52, 53, 54, 55, 56, 57, 58, 59, 60, 61, 62, 63, 64, 65, 66, 67, 68, 69, 70, 71, 72, 73, 74, 75, 1196, 1197, 1198, 1112, 1113, 1114, 1115, 1116, 1117, 1118, 1119, 1120, 1121, 1122, 1123, 1124, 1125, 1199, 1200, 1201, 1202, 1203, 1204, 1205, 1206, 1207, 1208, 1209, 1210, 1211, 1212, 1213, 1214, 1215] (by decide +kernel) (by decide +kernel)
set_option maxRecDepth 20000 in
theorem gL_law__X11_init : GoodIn wsL_law_ (wsX11_init) := ggL_law__X11_init
set_option maxRecDepth 20000 in
theorem ggL_law__X12_init : GoodIn wsL_law_ wsX12_init := goodIn_r _ [78, 79, 11, 12, 80, 81, 82, 54, 83, 84, 85, 86, 87, 88, 89, 90, 91, 92, 93, 94, 95, 96, 97, 98, 99, 100, 101, 102, 103, 104, 105, 106, 107, 108, 109, 110, 111, 112, 113, 114, 115, 116, 117, 118, 119, 120, 121, 6, 122, 123, 124, 125, 126, 127, 128, 129, 130, 1126, 1127, 1128, 1129, 1130, 1131, 1132, 1133, 1134, 1135, 1136, 1137, 1138, 1139, 1140, 1141, 1142, 1143, 1144, 1145, 1146, 1147, 1148, 1149, 1150, 1151, 1152, 1153, 1154, 1155, 1156, 1157, 1158, 1159, 1160, 1161, 1162, 1163, 1164, 1165, 1166, 1167, 1168, 1169, 1170, 1171, 1172, 1173, 1174, 1175, 1176, 1177, 1178, 1179, 1180, 1181, 1182, 1183, 1184, 1185, 1186, 1187, 1188, 1189, 1190, 1191, 1192, 1193, 1194, 1195] (by decide +kernel) (by decide +kernel)
set_option maxRecDepth 20000 in
theorem gL_law__X12_init : GoodIn wsL_law_ (wsX12_init) := ggL_law__X12_init
set_option maxHeartbeats 16000000 in
set_option maxRecDepth 100000 in
/-- THE LAW, from its entry -/
theorem whole_start {p : Program} {e : Env} {s : State} {m : MethodId} {below : List Frame} {meth : Method} {c : Code} (l : Launch) (hlt : l.stackTraces = false) {b L : Nat} {xs : Nat → Int32} (hL : L ≤ 6) (C0 : lw_At p s m meth c b L xs) : W p l e room_1 s m #[Value.ref b] below meth c s.heap [] 0 0 (lw_Z below #[Value.ref b] s) (entryFrame m ([Value.ref b] : List Value).toArray 8) := by
  obtain ⟨hx, hb, hr, hml, hown, hts0, hX, hbl, hlocks, hgv⟩ := id C0
  have hown : s.vm.findClass RL = some m.cls := hown
  have hts := fun w h => hts0 w (wsL_law__in w h)
  obtain ⟨A, hAe⟩ : ∃ A : Nat → Prop, (fun q : Nat => s.heap.size ≤ q) = A := ⟨_, rfl⟩
  have hA : ∀ q : Nat, s.heap.size ≤ q → A q := fun q h => by rw [← hAe]; exact h
  have hnA : ∀ a : Nat, a < s.heap.size → ¬ A a := fun a h => by rw [← hAe]; exact Nat.not_le.mpr h
  have hbA : ¬ A b := hnA b hbl
  obtain ⟨e0, hZ, hV, hT⟩ := pz_begin hts0 hgv hnA
  obtain ⟨k0, iS0, hKn0⟩ := u_known (C := RJx4a65c) (T := TJx4a65c) (N := 3) (n := 3) hts0 (fun w (h : w ∈ wsJx4a65c0) => wsL_law__in w (by unfold wsL_law_ wsL_law_0; simp only [List.mem_append, h, or_true, true_or])) (hts0 (.instantiable RJx4a65c 3) (by decide +kernel))
  obtain ⟨k1, iS1, hKn1⟩ := u_known (C := RX0) (T := TX0) (N := 4) (n := 4) hts0 (fun w (h : w ∈ wsX00) => wsL_law__in w (by unfold wsL_law_ wsL_law_0; simp only [List.mem_append, h, or_true, true_or])) (hts0 (.instantiable RX0 4) (by decide +kernel))
  obtain ⟨k2, iS2, hKn2⟩ := u_known (C := RX1) (T := TX1) (N := 4) (n := 4) hts0 (fun w (h : w ∈ wsX10) => wsL_law__in w (by unfold wsL_law_ wsL_law_0; simp only [List.mem_append, h, or_true, true_or])) (hts0 (.instantiable RX1 4) (by decide +kernel))
  obtain ⟨k3, iS3, hKn3⟩ := u_known (C := RX2) (T := TX2) (N := 2) (n := 2) hts0 (fun w (h : w ∈ wsX20) => wsL_law__in w (by unfold wsL_law_ wsL_law_0; simp only [List.mem_append, h, or_true, true_or])) (hts0 (.instantiable RX2 2) (by decide +kernel))
  obtain ⟨k4, iS4, hKn4⟩ := u_known (C := RX3) (T := TX3) (N := 5) (n := 5) hts0 (fun w (h : w ∈ wsX30) => wsL_law__in w (by unfold wsL_law_ wsL_law_0; simp only [List.mem_append, h, or_true, true_or])) (hts0 (.instantiable RX3 5) (by decide +kernel))
  obtain ⟨k5, iS5, hKn5⟩ := u_known (C := RX4) (T := TX4) (N := 2) (n := 2) hts0 (fun w (h : w ∈ wsX40) => wsL_law__in w (by unfold wsL_law_ wsL_law_0; simp only [List.mem_append, h, or_true, true_or])) (hts0 (.instantiable RX4 2) (by decide +kernel))
  obtain ⟨k6, iS6, hKn6⟩ := u_known (C := RX5) (T := TX5) (N := 5) (n := 5) hts0 (fun w (h : w ∈ wsX50) => wsL_law__in w (by unfold wsL_law_ wsL_law_0; simp only [List.mem_append, h, or_true, true_or])) (hts0 (.instantiable RX5 5) (by decide +kernel))
  obtain ⟨k7, iS7, hKn7⟩ := u_known (C := RX6) (T := TX6) (N := 9) (n := 9) hts0 (fun w (h : w ∈ wsX60) => wsL_law__in w (by unfold wsL_law_ wsL_law_0; simp only [List.mem_append, h, or_true, true_or])) (hts0 (.instantiable RX6 9) (by decide +kernel))
  obtain ⟨k8, iS8, hKn8⟩ := u_known (C := RX7) (T := TX7) (N := 3) (n := 3) hts0 (fun w (h : w ∈ wsX70) => wsL_law__in w (by unfold wsL_law_ wsL_law_0; simp only [List.mem_append, h, or_true, true_or])) (hts0 (.instantiable RX7 3) (by decide +kernel))
  obtain ⟨k9, iS9, hKn9⟩ := u_known (C := RX8) (T := TX8) (N := 13) (n := 13) hts0 (fun w (h : w ∈ wsX80) => wsL_law__in w (by unfold wsL_law_ wsL_law_0; simp only [List.mem_append, h, or_true, true_or])) (hts0 (.instantiable RX8 13) (by decide +kernel))
  obtain ⟨k10, iS10, hKn10⟩ := u_known (C := RX9) (T := TX9) (N := 2) (n := 2) hts0 (fun w (h : w ∈ wsX90) => wsL_law__in w (by unfold wsL_law_ wsL_law_0; simp only [List.mem_append, h, or_true, true_or])) (hts0 (.instantiable RX9 2) (by decide +kernel))
  obtain ⟨k11, iS11, hKn11⟩ := u_known (C := RX10) (T := TX10) (N := 5) (n := 5) hts0 (fun w (h : w ∈ wsX100) => wsL_law__in w (by unfold wsL_law_ wsL_law_0; simp only [List.mem_append, h, or_true, true_or])) (hts0 (.instantiable RX10 5) (by decide +kernel))
  obtain ⟨k12, iS12, hKn12⟩ := u_known (C := RX11) (T := TX11) (N := 14) (n := 14) hts0 (fun w (h : w ∈ wsX110) => wsL_law__in w (by unfold wsL_law_ wsL_law_0; simp only [List.mem_append, h, or_true, true_or])) (hts0 (.instantiable RX11 14) (by decide +kernel))
  obtain ⟨k13, iS13, hKn13⟩ := u_known (C := RX12) (T := TX12) (N := 70) (n := 70) hts0 (fun w (h : w ∈ wsX120) => wsL_law__in w (by unfold wsL_law_ wsL_law_0; simp only [List.mem_append, h, or_true, true_or])) (hts0 (.instantiable RX12 70) (by decide +kernel))
  obtain ⟨dC, dI, hKc⟩ : ∃ (dC : Nat → ClassId) (dI : Nat → Nat → Nat), ∀ (k : Nat) (q : vw_C), vwCl[k]? = some q → u_Kn s q.1 q.2.1 q.2.2 (dC k) (dI k) := by
    refine ⟨fun k => match k with | 0 => k0 | 1 => k1 | 2 => k2 | 3 => k3 | 4 => k4 | 5 => k5 | 6 => k6 | 7 => k7 | 8 => k8 | 9 => k9 | 10 => k10 | 11 => k11 | 12 => k12 | _ => k13, fun k => match k with | 0 => iS0 | 1 => iS1 | 2 => iS2 | 3 => iS3 | 4 => iS4 | 5 => iS5 | 6 => iS6 | 7 => iS7 | 8 => iS8 | 9 => iS9 | 10 => iS10 | 11 => iS11 | 12 => iS12 | _ => iS13, ?_⟩
    intro k q hq
    match k, hq with
    | 0, hq => cases hq; exact hKn0
    | 1, hq => cases hq; exact hKn1
    | 2, hq => cases hq; exact hKn2
    | 3, hq => cases hq; exact hKn3
    | 4, hq => cases hq; exact hKn4
    | 5, hq => cases hq; exact hKn5
    | 6, hq => cases hq; exact hKn6
    | 7, hq => cases hq; exact hKn7
    | 8, hq => cases hq; exact hKn8
    | 9, hq => cases hq; exact hKn9
    | 10, hq => cases hq; exact hKn10
    | 11, hq => cases hq; exact hKn11
    | 12, hq => cases hq; exact hKn12
    | 13, hq => cases hq; exact hKn13
    | k + 14, hq => simp [vwCl] at hq
  have hS : va_S A s.heap s.heap [] := va_S.rf
  have hK : va_K (dC, dI) vwCl [] s := ⟨hKc, fun k q h => by simp at h⟩
  have hP : va_P (dC, dI) vwCl [] s.heap := fun k q h => by simp at h
  have hD : va_D A [] := ⟨fun i j p q h => by simp at h, fun k q h => by simp at h⟩
  have hl := lv_entry ([.ref b]) (n := 8) (Nat.le_of_ble_eq_true rfl)
  rw [lg_entry_eq]
  generalize (lg_sl ([.ref b]) ++ List.replicate (8 - (lg_sl ([.ref b])).length) Slot.unset).toArray = ls at hl ⊢
  have hl : lv_has ls 8 [(0, .ref b)] := hl
  have hinX11 : ∀ w ∈ wsX110, w ∈ wsL_law_ := fun w h => by unfold wsL_law_ wsL_law_0; simp only [List.mem_append, h, or_true, true_or]
  have hinX12 : ∀ w ∈ wsX120, w ∈ wsL_law_ := fun w h => by unfold wsL_law_ wsL_law_0; simp only [List.mem_append, h, or_true, true_or]
  refine va_new (ci := 12) (fs := [.null, .null, .null, .null, .null, .null, .null, .null, .null, .int 0, .int 0, .int 0, .long 0, .long 0]) (C := RX11) (T := TX11) (N := 14) hx hb hts hinX11 tyX11 tyX11_ok hown (hts (.classLink RL 8 RX11) (by decide +kernel)) (hts (.instantiable RX11 14) (by decide +kernel)) (hts (.initialized RX11) (by decide +kernel)) hK hP hD hS hA rfl dfX11 (Nat.le_of_ble_eq_true rfl) (Nat.le_of_ble_eq_true rfl) dL_law__0 (fun q_1 H hP hD hS => ?_)
  have hP : va_P (dC, dI) vwCl [(q_1, .inr (12, [.null, .null, .null, .null, .null, .null, .null, .null, .null, .int 0, .int 0, .int 0, .long 0, .long 0]))] H := hP
  have hD : va_D A [(q_1, .inr (12, [.null, .null, .null, .null, .null, .null, .null, .null, .null, .int 0, .int 0, .int 0, .long 0, .long 0]))] := hD
  refine lv_dup hx hb dL_law__3 rfl ?_
  have hPc := hP.sub (ws' := [(q_1, .inr (12, [.null, .null, .null, .null, .null, .null, .null, .null, .null, .int 0, .int 0, .int 0, .long 0, .long 0]))]) [0] rfl
  have hDc := hD.sub (ws' := [(q_1, .inr (12, [.null, .null, .null, .null, .null, .null, .null, .null, .null, .int 0, .int 0, .int 0, .long 0, .long 0]))]) [0] (by decide) rfl
  have hKc := hK.sub (tys' := []) [] rfl
  have hFc := va_free (wc := [(q_1, .inr (12, [.null, .null, .null, .null, .null, .null, .null, .null, .null, .int 0, .int 0, .int 0, .long 0, .long 0]))]) hD hS hA [0] rfl
  refine va_callv (va_runI (As := []) (rest := [.ref q_1]) ⟨hx, hb, hml, hown, hts⟩ (c_X11_init l hlt e0 dC dI H.size q_1) (cwI 0 hts gL_law__X11_init rfl rfl rfl (hts (.initialized RX11) (by decide +kernel)) (hts (.methodLink RL 81 yX11_init) (by decide +kernel)) (hts (.instanceMethod yX11_init) (by decide +kernel)) rfl (by decide +kernel) ⟨Nat.le_of_ble_eq_true rfl, Nat.le_of_ble_eq_true rfl⟩) (pz_preS [.ref q_1] hPc hDc hKc hZ hV hT hS hFc) rfl rfl hl.1 rfl (lv_room (Nat.le_of_ble_eq_true rfl)) dL_law__4 ⟨Nat.le_of_ble_eq_true rfl, Nat.le_of_ble_eq_true rfl⟩) hS (fun q _ h => hFc q h) hFc (fun u_3 t H locs ht hvm hw_4 hB_5 hz1 hk1 hS => ?_)
  obtain ⟨hY, caX⟩ := u_3
  obtain ⟨hP1, hD1, hK1⟩ := hB_5
  rw [ht] at hP1
  have hK := (hK.app (va_K.moved hvm.symm hK1))
  obtain ⟨hP, hD⟩ := va_join (wr := []) (w1 := [(hY 0, .inr (12, [.ref (hY 1), .ref (hY 2), .ref (hY 3), .ref (hY 4), .ref (hY 5), .ref (hY 6), .ref (hY 8), .ref (hY 12), .ref (hY 11), .int 0, .int 0, .int (-1), .long 0, .long 0])), (hY 1, .inr (0, [.int 0, .ref e0, .int 0])), (hY 2, .inr (0, [.int 0, .ref e0, .int 0])), (hY 3, .inr (0, [.int 0, .ref e0, .int 0])), (hY 4, .inr (0, [.int 0, .ref e0, .int 0])), (hY 5, .inr (0, [.int 0, .ref e0, .int 0])), (hY 6, .inr (10, [.ref (hY 7), .int 0])), (hY 7, .inl (caX 0, 500, .inl (fun _ => 0))), (hY 8, .inr (6, [.ref (hY 9), .ref (hY 10), .int 0, .int 0, .int 0])), (hY 9, .inr (11, [.ref (hY 6), .int 0, .int 0, .int 0, .int 0])), (hY 10, .inl (caX 1, 500, .inl (fun _ => 0))), (hY 11, .inl (caX 2, 16, .inr (.inl (fun _ => 0))))]) hP hD [0] [] rfl rfl (by decide) (by decide) hk1 hFc hP1 hD1
  have hK : va_K (dC, dI) vwCl [(caX 0, .int), (caX 1, .int), (caX 2, .long)] s := hK
  have hP : va_P (dC, dI) vwCl [(hY 0, .inr (12, [.ref (hY 1), .ref (hY 2), .ref (hY 3), .ref (hY 4), .ref (hY 5), .ref (hY 6), .ref (hY 8), .ref (hY 12), .ref (hY 11), .int 0, .int 0, .int (-1), .long 0, .long 0])), (hY 1, .inr (0, [.int 0, .ref e0, .int 0])), (hY 2, .inr (0, [.int 0, .ref e0, .int 0])), (hY 3, .inr (0, [.int 0, .ref e0, .int 0])), (hY 4, .inr (0, [.int 0, .ref e0, .int 0])), (hY 5, .inr (0, [.int 0, .ref e0, .int 0])), (hY 6, .inr (10, [.ref (hY 7), .int 0])), (hY 7, .inl (caX 0, 500, .inl (fun _ => 0))), (hY 8, .inr (6, [.ref (hY 9), .ref (hY 10), .int 0, .int 0, .int 0])), (hY 9, .inr (11, [.ref (hY 6), .int 0, .int 0, .int 0, .int 0])), (hY 10, .inl (caX 1, 500, .inl (fun _ => 0))), (hY 11, .inl (caX 2, 16, .inr (.inl (fun _ => 0))))] H := hP
  have hD : va_D A [(hY 0, .inr (12, [.ref (hY 1), .ref (hY 2), .ref (hY 3), .ref (hY 4), .ref (hY 5), .ref (hY 6), .ref (hY 8), .ref (hY 12), .ref (hY 11), .int 0, .int 0, .int (-1), .long 0, .long 0])), (hY 1, .inr (0, [.int 0, .ref e0, .int 0])), (hY 2, .inr (0, [.int 0, .ref e0, .int 0])), (hY 3, .inr (0, [.int 0, .ref e0, .int 0])), (hY 4, .inr (0, [.int 0, .ref e0, .int 0])), (hY 5, .inr (0, [.int 0, .ref e0, .int 0])), (hY 6, .inr (10, [.ref (hY 7), .int 0])), (hY 7, .inl (caX 0, 500, .inl (fun _ => 0))), (hY 8, .inr (6, [.ref (hY 9), .ref (hY 10), .int 0, .int 0, .int 0])), (hY 9, .inr (11, [.ref (hY 6), .int 0, .int 0, .int 0, .int 0])), (hY 10, .inl (caX 1, 500, .inl (fun _ => 0))), (hY 11, .inl (caX 2, 16, .inr (.inl (fun _ => 0))))] := hD
  have hw9 : hY 0 = q_1 := hw_4
  rw [← hw9]
  refine lv_astore_n (lv' := [(1, .ref (hY 0)), (0, .ref b)]) hx hb dL_law__7 rfl hl (by decide) rfl (fun ls hl => ?_)
  refine va_new (ci := 13) (fs := [.null, .int 0, .int 0, .int 0, .int 0, .int 0, .int 0, .int 0, .int 0, .int 0, .int 0, .long 0, .long 0, .null, .null, .null, .null, .null, .null, .null, .null, .null, .null, .null, .null, .null, .null, .null, .null, .null, .null, .null, .null, .null, .null, .null, .null, .null, .null, .null, .null, .null, .null, .null, .null, .null, .null, .null, .null, .null, .null, .null, .null, .null, .null, .null, .null, .null, .null, .int 0, .int 0, .int 0, .int 0, .int 0, .int 0, .int 0, .int 0, .int 0, .int 0, .null]) (C := RX12) (T := TX12) (N := 70) hx hb hts hinX12 tyX12 tyX12_ok hown (hts (.classLink RL 82 RX12) (by decide +kernel)) (hts (.instantiable RX12 70) (by decide +kernel)) (hts (.initialized RX12) (by decide +kernel)) hK hP hD hS hA rfl dfX12 (Nat.le_of_ble_eq_true rfl) (Nat.le_of_ble_eq_true rfl) dL_law__8 (fun q_6 H hP hD hS => ?_)
  have hP : va_P (dC, dI) vwCl [(hY 0, .inr (12, [.ref (hY 1), .ref (hY 2), .ref (hY 3), .ref (hY 4), .ref (hY 5), .ref (hY 6), .ref (hY 8), .ref (hY 12), .ref (hY 11), .int 0, .int 0, .int (-1), .long 0, .long 0])), (hY 1, .inr (0, [.int 0, .ref e0, .int 0])), (hY 2, .inr (0, [.int 0, .ref e0, .int 0])), (hY 3, .inr (0, [.int 0, .ref e0, .int 0])), (hY 4, .inr (0, [.int 0, .ref e0, .int 0])), (hY 5, .inr (0, [.int 0, .ref e0, .int 0])), (hY 6, .inr (10, [.ref (hY 7), .int 0])), (hY 7, .inl (caX 0, 500, .inl (fun _ => 0))), (hY 8, .inr (6, [.ref (hY 9), .ref (hY 10), .int 0, .int 0, .int 0])), (hY 9, .inr (11, [.ref (hY 6), .int 0, .int 0, .int 0, .int 0])), (hY 10, .inl (caX 1, 500, .inl (fun _ => 0))), (hY 11, .inl (caX 2, 16, .inr (.inl (fun _ => 0)))), (q_6, .inr (13, [.null, .int 0, .int 0, .int 0, .int 0, .int 0, .int 0, .int 0, .int 0, .int 0, .int 0, .long 0, .long 0, .null, .null, .null, .null, .null, .null, .null, .null, .null, .null, .null, .null, .null, .null, .null, .null, .null, .null, .null, .null, .null, .null, .null, .null, .null, .null, .null, .null, .null, .null, .null, .null, .null, .null, .null, .null, .null, .null, .null, .null, .null, .null, .null, .null, .null, .null, .int 0, .int 0, .int 0, .int 0, .int 0, .int 0, .int 0, .int 0, .int 0, .int 0, .null]))] H := hP
  have hD : va_D A [(hY 0, .inr (12, [.ref (hY 1), .ref (hY 2), .ref (hY 3), .ref (hY 4), .ref (hY 5), .ref (hY 6), .ref (hY 8), .ref (hY 12), .ref (hY 11), .int 0, .int 0, .int (-1), .long 0, .long 0])), (hY 1, .inr (0, [.int 0, .ref e0, .int 0])), (hY 2, .inr (0, [.int 0, .ref e0, .int 0])), (hY 3, .inr (0, [.int 0, .ref e0, .int 0])), (hY 4, .inr (0, [.int 0, .ref e0, .int 0])), (hY 5, .inr (0, [.int 0, .ref e0, .int 0])), (hY 6, .inr (10, [.ref (hY 7), .int 0])), (hY 7, .inl (caX 0, 500, .inl (fun _ => 0))), (hY 8, .inr (6, [.ref (hY 9), .ref (hY 10), .int 0, .int 0, .int 0])), (hY 9, .inr (11, [.ref (hY 6), .int 0, .int 0, .int 0, .int 0])), (hY 10, .inl (caX 1, 500, .inl (fun _ => 0))), (hY 11, .inl (caX 2, 16, .inr (.inl (fun _ => 0)))), (q_6, .inr (13, [.null, .int 0, .int 0, .int 0, .int 0, .int 0, .int 0, .int 0, .int 0, .int 0, .int 0, .long 0, .long 0, .null, .null, .null, .null, .null, .null, .null, .null, .null, .null, .null, .null, .null, .null, .null, .null, .null, .null, .null, .null, .null, .null, .null, .null, .null, .null, .null, .null, .null, .null, .null, .null, .null, .null, .null, .null, .null, .null, .null, .null, .null, .null, .null, .null, .null, .null, .int 0, .int 0, .int 0, .int 0, .int 0, .int 0, .int 0, .int 0, .int 0, .int 0, .null]))] := hD
  refine lv_dup hx hb dL_law__11 rfl ?_
  have hPc := hP.sub (ws' := [(q_6, .inr (13, [.null, .int 0, .int 0, .int 0, .int 0, .int 0, .int 0, .int 0, .int 0, .int 0, .int 0, .long 0, .long 0, .null, .null, .null, .null, .null, .null, .null, .null, .null, .null, .null, .null, .null, .null, .null, .null, .null, .null, .null, .null, .null, .null, .null, .null, .null, .null, .null, .null, .null, .null, .null, .null, .null, .null, .null, .null, .null, .null, .null, .null, .null, .null, .null, .null, .null, .null, .int 0, .int 0, .int 0, .int 0, .int 0, .int 0, .int 0, .int 0, .int 0, .int 0, .null]))]) [12] rfl
  have hDc := hD.sub (ws' := [(q_6, .inr (13, [.null, .int 0, .int 0, .int 0, .int 0, .int 0, .int 0, .int 0, .int 0, .int 0, .int 0, .long 0, .long 0, .null, .null, .null, .null, .null, .null, .null, .null, .null, .null, .null, .null, .null, .null, .null, .null, .null, .null, .null, .null, .null, .null, .null, .null, .null, .null, .null, .null, .null, .null, .null, .null, .null, .null, .null, .null, .null, .null, .null, .null, .null, .null, .null, .null, .null, .null, .int 0, .int 0, .int 0, .int 0, .int 0, .int 0, .int 0, .int 0, .int 0, .int 0, .null]))]) [12] (by decide) rfl
  have hKc := hK.sub (tys' := []) [] rfl
  have hFc := va_free (wc := [(q_6, .inr (13, [.null, .int 0, .int 0, .int 0, .int 0, .int 0, .int 0, .int 0, .int 0, .int 0, .int 0, .long 0, .long 0, .null, .null, .null, .null, .null, .null, .null, .null, .null, .null, .null, .null, .null, .null, .null, .null, .null, .null, .null, .null, .null, .null, .null, .null, .null, .null, .null, .null, .null, .null, .null, .null, .null, .null, .null, .null, .null, .null, .null, .null, .null, .null, .null, .null, .null, .null, .int 0, .int 0, .int 0, .int 0, .int 0, .int 0, .int 0, .int 0, .int 0, .int 0, .null]))]) hD hS hA [12] rfl
  refine va_callv (va_runI (As := []) (rest := [.ref q_6]) ⟨hx, hb, hml, hown, hts⟩ (c_X12_init l hlt e0 dC dI H.size q_6) (cwI 0 hts gL_law__X12_init rfl rfl rfl (hts (.initialized RX12) (by decide +kernel)) (hts (.methodLink RL 84 yX12_init) (by decide +kernel)) (hts (.instanceMethod yX12_init) (by decide +kernel)) rfl (by decide +kernel) ⟨Nat.le_of_ble_eq_true rfl, Nat.le_of_ble_eq_true rfl⟩) (pz_preS [.ref q_6] hPc hDc hKc hZ hV hT hS hFc) rfl rfl hl.1 rfl (lv_room (Nat.le_of_ble_eq_true rfl)) dL_law__12 ⟨Nat.le_of_ble_eq_true rfl, Nat.le_of_ble_eq_true rfl⟩) hS (fun q _ h => hFc q h) hFc (fun u_8 t H locs ht hvm hw_9 hB_10 hz1 hk1 hS => ?_)
  obtain ⟨gX, cbX⟩ := u_8
  obtain ⟨hP1, hD1, hK1⟩ := hB_10
  rw [ht] at hP1
  have hK := (hK.app (va_K.moved hvm.symm hK1))
  obtain ⟨hP, hD⟩ := va_join (wr := [(hY 0, .inr (12, [.ref (hY 1), .ref (hY 2), .ref (hY 3), .ref (hY 4), .ref (hY 5), .ref (hY 6), .ref (hY 8), .ref (hY 12), .ref (hY 11), .int 0, .int 0, .int (-1), .long 0, .long 0])), (hY 1, .inr (0, [.int 0, .ref e0, .int 0])), (hY 2, .inr (0, [.int 0, .ref e0, .int 0])), (hY 3, .inr (0, [.int 0, .ref e0, .int 0])), (hY 4, .inr (0, [.int 0, .ref e0, .int 0])), (hY 5, .inr (0, [.int 0, .ref e0, .int 0])), (hY 6, .inr (10, [.ref (hY 7), .int 0])), (hY 7, .inl (caX 0, 500, .inl (fun _ => 0))), (hY 8, .inr (6, [.ref (hY 9), .ref (hY 10), .int 0, .int 0, .int 0])), (hY 9, .inr (11, [.ref (hY 6), .int 0, .int 0, .int 0, .int 0])), (hY 10, .inl (caX 1, 500, .inl (fun _ => 0))), (hY 11, .inl (caX 2, 16, .inr (.inl (fun _ => 0))))]) (w1 := [(gX 0, .inr (13, [.ref (gX 1), .int 0, .int 0, .int 0, .int 0, .int 0, .int 0, .int 0, .int 0, .int 0, .int (-1), .long 0, .long 0, .ref (gX 14), .ref (gX 15), .ref (gX 16), .ref (gX 17), .ref (gX 18), .ref (gX 19), .ref (gX 20), .ref (gX 21), .ref (gX 22), .ref (gX 23), .ref (gX 24), .ref (gX 25), .ref (gX 26), .ref (gX 27), .ref (gX 28), .ref (gX 29), .ref (gX 30), .ref (gX 31), .ref (gX 32), .ref (gX 33), .ref (gX 34), .ref (gX 35), .ref (gX 36), .ref (gX 37), .ref (gX 38), .ref (gX 39), .ref (gX 40), .ref (gX 41), .ref (gX 42), .ref (gX 43), .ref (gX 44), .ref (gX 45), .ref (gX 46), .ref (gX 47), .ref (gX 48), .ref (gX 49), .ref (gX 50), .ref (gX 51), .ref (gX 52), .ref (gX 53), .ref (gX 54), .ref (gX 55), .ref (gX 56), .ref (gX 57), .ref (gX 58), .ref (gX 59), .int 0, .int 0, .int 0, .int 0, .int 0, .int 0, .int 0, .int 0, .int 0, .int 0, .ref (gX 70)])), (gX 14, .inl (cbX 14, 10, .inl (fun _ => 0))), (gX 15, .inl (cbX 15, 10, .inl (fun _ => 0))), (gX 16, .inl (cbX 16, 10, .inl (fun _ => 0))), (gX 17, .inl (cbX 17, 10, .inl (fun _ => 0))), (gX 34, .inl (cbX 34, 120, .inl (fun _ => 0))), (gX 35, .inl (cbX 35, 120, .inl (fun _ => 0))), (gX 36, .inl (cbX 36, 400, .inl (fun _ => 0))), (gX 37, .inl (cbX 37, 400, .inl (fun _ => 0))), (gX 38, .inl (cbX 38, 400, .inl (fun _ => 0))), (gX 39, .inl (cbX 39, 400, .inl (fun _ => 0))), (gX 40, .inl (cbX 40, 400, .inl (fun _ => 0))), (gX 41, .inl (cbX 41, 400, .inl (fun _ => 0))), (gX 43, .inl (cbX 43, 400, .inl (fun _ => 0))), (gX 52, .inl (cbX 52, 16, .inr (.inl (fun _ => 0)))), (gX 53, .inl (cbX 53, 500, .inl (fun _ => 0))), (gX 54, .inl (cbX 54, 6, .inl (fun _ => 0))), (gX 55, .inl (cbX 55, 6, .inl (fun _ => 0))), (gX 56, .inl (cbX 56, 78, .inl (fun _ => 0)))]) hP hD [12] [0, 1, 2, 3, 4, 5, 6, 7, 8, 9, 10, 11] rfl rfl (by decide) (by decide) hk1 hFc hP1 hD1
  have hK : va_K (dC, dI) vwCl [(caX 0, .int), (caX 1, .int), (caX 2, .long), (cbX 14, .int), (cbX 15, .int), (cbX 16, .int), (cbX 17, .int), (cbX 34, .boolean), (cbX 35, .boolean), (cbX 36, .int), (cbX 37, .int), (cbX 38, .int), (cbX 39, .int), (cbX 40, .int), (cbX 41, .int), (cbX 43, .int), (cbX 52, .long), (cbX 53, .int), (cbX 54, .int), (cbX 55, .int), (cbX 56, .int)] s := hK
  have hP : va_P (dC, dI) vwCl [(hY 0, .inr (12, [.ref (hY 1), .ref (hY 2), .ref (hY 3), .ref (hY 4), .ref (hY 5), .ref (hY 6), .ref (hY 8), .ref (hY 12), .ref (hY 11), .int 0, .int 0, .int (-1), .long 0, .long 0])), (hY 1, .inr (0, [.int 0, .ref e0, .int 0])), (hY 2, .inr (0, [.int 0, .ref e0, .int 0])), (hY 3, .inr (0, [.int 0, .ref e0, .int 0])), (hY 4, .inr (0, [.int 0, .ref e0, .int 0])), (hY 5, .inr (0, [.int 0, .ref e0, .int 0])), (hY 6, .inr (10, [.ref (hY 7), .int 0])), (hY 7, .inl (caX 0, 500, .inl (fun _ => 0))), (hY 8, .inr (6, [.ref (hY 9), .ref (hY 10), .int 0, .int 0, .int 0])), (hY 9, .inr (11, [.ref (hY 6), .int 0, .int 0, .int 0, .int 0])), (hY 10, .inl (caX 1, 500, .inl (fun _ => 0))), (hY 11, .inl (caX 2, 16, .inr (.inl (fun _ => 0)))), (gX 0, .inr (13, [.ref (gX 1), .int 0, .int 0, .int 0, .int 0, .int 0, .int 0, .int 0, .int 0, .int 0, .int (-1), .long 0, .long 0, .ref (gX 14), .ref (gX 15), .ref (gX 16), .ref (gX 17), .ref (gX 18), .ref (gX 19), .ref (gX 20), .ref (gX 21), .ref (gX 22), .ref (gX 23), .ref (gX 24), .ref (gX 25), .ref (gX 26), .ref (gX 27), .ref (gX 28), .ref (gX 29), .ref (gX 30), .ref (gX 31), .ref (gX 32), .ref (gX 33), .ref (gX 34), .ref (gX 35), .ref (gX 36), .ref (gX 37), .ref (gX 38), .ref (gX 39), .ref (gX 40), .ref (gX 41), .ref (gX 42), .ref (gX 43), .ref (gX 44), .ref (gX 45), .ref (gX 46), .ref (gX 47), .ref (gX 48), .ref (gX 49), .ref (gX 50), .ref (gX 51), .ref (gX 52), .ref (gX 53), .ref (gX 54), .ref (gX 55), .ref (gX 56), .ref (gX 57), .ref (gX 58), .ref (gX 59), .int 0, .int 0, .int 0, .int 0, .int 0, .int 0, .int 0, .int 0, .int 0, .int 0, .ref (gX 70)])), (gX 14, .inl (cbX 14, 10, .inl (fun _ => 0))), (gX 15, .inl (cbX 15, 10, .inl (fun _ => 0))), (gX 16, .inl (cbX 16, 10, .inl (fun _ => 0))), (gX 17, .inl (cbX 17, 10, .inl (fun _ => 0))), (gX 34, .inl (cbX 34, 120, .inl (fun _ => 0))), (gX 35, .inl (cbX 35, 120, .inl (fun _ => 0))), (gX 36, .inl (cbX 36, 400, .inl (fun _ => 0))), (gX 37, .inl (cbX 37, 400, .inl (fun _ => 0))), (gX 38, .inl (cbX 38, 400, .inl (fun _ => 0))), (gX 39, .inl (cbX 39, 400, .inl (fun _ => 0))), (gX 40, .inl (cbX 40, 400, .inl (fun _ => 0))), (gX 41, .inl (cbX 41, 400, .inl (fun _ => 0))), (gX 43, .inl (cbX 43, 400, .inl (fun _ => 0))), (gX 52, .inl (cbX 52, 16, .inr (.inl (fun _ => 0)))), (gX 53, .inl (cbX 53, 500, .inl (fun _ => 0))), (gX 54, .inl (cbX 54, 6, .inl (fun _ => 0))), (gX 55, .inl (cbX 55, 6, .inl (fun _ => 0))), (gX 56, .inl (cbX 56, 78, .inl (fun _ => 0)))] H := hP
  have hD : va_D A [(hY 0, .inr (12, [.ref (hY 1), .ref (hY 2), .ref (hY 3), .ref (hY 4), .ref (hY 5), .ref (hY 6), .ref (hY 8), .ref (hY 12), .ref (hY 11), .int 0, .int 0, .int (-1), .long 0, .long 0])), (hY 1, .inr (0, [.int 0, .ref e0, .int 0])), (hY 2, .inr (0, [.int 0, .ref e0, .int 0])), (hY 3, .inr (0, [.int 0, .ref e0, .int 0])), (hY 4, .inr (0, [.int 0, .ref e0, .int 0])), (hY 5, .inr (0, [.int 0, .ref e0, .int 0])), (hY 6, .inr (10, [.ref (hY 7), .int 0])), (hY 7, .inl (caX 0, 500, .inl (fun _ => 0))), (hY 8, .inr (6, [.ref (hY 9), .ref (hY 10), .int 0, .int 0, .int 0])), (hY 9, .inr (11, [.ref (hY 6), .int 0, .int 0, .int 0, .int 0])), (hY 10, .inl (caX 1, 500, .inl (fun _ => 0))), (hY 11, .inl (caX 2, 16, .inr (.inl (fun _ => 0)))), (gX 0, .inr (13, [.ref (gX 1), .int 0, .int 0, .int 0, .int 0, .int 0, .int 0, .int 0, .int 0, .int 0, .int (-1), .long 0, .long 0, .ref (gX 14), .ref (gX 15), .ref (gX 16), .ref (gX 17), .ref (gX 18), .ref (gX 19), .ref (gX 20), .ref (gX 21), .ref (gX 22), .ref (gX 23), .ref (gX 24), .ref (gX 25), .ref (gX 26), .ref (gX 27), .ref (gX 28), .ref (gX 29), .ref (gX 30), .ref (gX 31), .ref (gX 32), .ref (gX 33), .ref (gX 34), .ref (gX 35), .ref (gX 36), .ref (gX 37), .ref (gX 38), .ref (gX 39), .ref (gX 40), .ref (gX 41), .ref (gX 42), .ref (gX 43), .ref (gX 44), .ref (gX 45), .ref (gX 46), .ref (gX 47), .ref (gX 48), .ref (gX 49), .ref (gX 50), .ref (gX 51), .ref (gX 52), .ref (gX 53), .ref (gX 54), .ref (gX 55), .ref (gX 56), .ref (gX 57), .ref (gX 58), .ref (gX 59), .int 0, .int 0, .int 0, .int 0, .int 0, .int 0, .int 0, .int 0, .int 0, .int 0, .ref (gX 70)])), (gX 14, .inl (cbX 14, 10, .inl (fun _ => 0))), (gX 15, .inl (cbX 15, 10, .inl (fun _ => 0))), (gX 16, .inl (cbX 16, 10, .inl (fun _ => 0))), (gX 17, .inl (cbX 17, 10, .inl (fun _ => 0))), (gX 34, .inl (cbX 34, 120, .inl (fun _ => 0))), (gX 35, .inl (cbX 35, 120, .inl (fun _ => 0))), (gX 36, .inl (cbX 36, 400, .inl (fun _ => 0))), (gX 37, .inl (cbX 37, 400, .inl (fun _ => 0))), (gX 38, .inl (cbX 38, 400, .inl (fun _ => 0))), (gX 39, .inl (cbX 39, 400, .inl (fun _ => 0))), (gX 40, .inl (cbX 40, 400, .inl (fun _ => 0))), (gX 41, .inl (cbX 41, 400, .inl (fun _ => 0))), (gX 43, .inl (cbX 43, 400, .inl (fun _ => 0))), (gX 52, .inl (cbX 52, 16, .inr (.inl (fun _ => 0)))), (gX 53, .inl (cbX 53, 500, .inl (fun _ => 0))), (gX 54, .inl (cbX 54, 6, .inl (fun _ => 0))), (gX 55, .inl (cbX 55, 6, .inl (fun _ => 0))), (gX 56, .inl (cbX 56, 78, .inl (fun _ => 0)))] := hD
  have hw9 : gX 0 = q_6 := hw_9
  rw [← hw9]
  refine lv_astore_n (lv' := [(2, .ref (gX 0)), (1, .ref (hY 0)), (0, .ref b)]) hx hb dL_law__15 rfl hl (by decide) rfl (fun ls hl => ?_)
  refine lv_iconst (v := 1) hx hb dL_law__16 (by decide) ?_
  refine va_newa (atype := .long) (ty := .long) (N' := 1) (n := 1) (a0 := (1, .inr (.inl (fun _ => 0)))) hx hb (hts (.arrayClass .long) (by decide +kernel)) rfl hK hP hD hS hA (pz_al 1) (by decide) (by decide) (by decide) (Nat.le_of_ble_eq_true rfl) (Nat.le_of_ble_eq_true rfl) dL_law__17 (fun q_11 cA_12 H hK hP hD hS => ?_)
  have hP : va_P (dC, dI) vwCl [(hY 0, .inr (12, [.ref (hY 1), .ref (hY 2), .ref (hY 3), .ref (hY 4), .ref (hY 5), .ref (hY 6), .ref (hY 8), .ref (hY 12), .ref (hY 11), .int 0, .int 0, .int (-1), .long 0, .long 0])), (hY 1, .inr (0, [.int 0, .ref e0, .int 0])), (hY 2, .inr (0, [.int 0, .ref e0, .int 0])), (hY 3, .inr (0, [.int 0, .ref e0, .int 0])), (hY 4, .inr (0, [.int 0, .ref e0, .int 0])), (hY 5, .inr (0, [.int 0, .ref e0, .int 0])), (hY 6, .inr (10, [.ref (hY 7), .int 0])), (hY 7, .inl (caX 0, 500, .inl (fun _ => 0))), (hY 8, .inr (6, [.ref (hY 9), .ref (hY 10), .int 0, .int 0, .int 0])), (hY 9, .inr (11, [.ref (hY 6), .int 0, .int 0, .int 0, .int 0])), (hY 10, .inl (caX 1, 500, .inl (fun _ => 0))), (hY 11, .inl (caX 2, 16, .inr (.inl (fun _ => 0)))), (gX 0, .inr (13, [.ref (gX 1), .int 0, .int 0, .int 0, .int 0, .int 0, .int 0, .int 0, .int 0, .int 0, .int (-1), .long 0, .long 0, .ref (gX 14), .ref (gX 15), .ref (gX 16), .ref (gX 17), .ref (gX 18), .ref (gX 19), .ref (gX 20), .ref (gX 21), .ref (gX 22), .ref (gX 23), .ref (gX 24), .ref (gX 25), .ref (gX 26), .ref (gX 27), .ref (gX 28), .ref (gX 29), .ref (gX 30), .ref (gX 31), .ref (gX 32), .ref (gX 33), .ref (gX 34), .ref (gX 35), .ref (gX 36), .ref (gX 37), .ref (gX 38), .ref (gX 39), .ref (gX 40), .ref (gX 41), .ref (gX 42), .ref (gX 43), .ref (gX 44), .ref (gX 45), .ref (gX 46), .ref (gX 47), .ref (gX 48), .ref (gX 49), .ref (gX 50), .ref (gX 51), .ref (gX 52), .ref (gX 53), .ref (gX 54), .ref (gX 55), .ref (gX 56), .ref (gX 57), .ref (gX 58), .ref (gX 59), .int 0, .int 0, .int 0, .int 0, .int 0, .int 0, .int 0, .int 0, .int 0, .int 0, .ref (gX 70)])), (gX 14, .inl (cbX 14, 10, .inl (fun _ => 0))), (gX 15, .inl (cbX 15, 10, .inl (fun _ => 0))), (gX 16, .inl (cbX 16, 10, .inl (fun _ => 0))), (gX 17, .inl (cbX 17, 10, .inl (fun _ => 0))), (gX 34, .inl (cbX 34, 120, .inl (fun _ => 0))), (gX 35, .inl (cbX 35, 120, .inl (fun _ => 0))), (gX 36, .inl (cbX 36, 400, .inl (fun _ => 0))), (gX 37, .inl (cbX 37, 400, .inl (fun _ => 0))), (gX 38, .inl (cbX 38, 400, .inl (fun _ => 0))), (gX 39, .inl (cbX 39, 400, .inl (fun _ => 0))), (gX 40, .inl (cbX 40, 400, .inl (fun _ => 0))), (gX 41, .inl (cbX 41, 400, .inl (fun _ => 0))), (gX 43, .inl (cbX 43, 400, .inl (fun _ => 0))), (gX 52, .inl (cbX 52, 16, .inr (.inl (fun _ => 0)))), (gX 53, .inl (cbX 53, 500, .inl (fun _ => 0))), (gX 54, .inl (cbX 54, 6, .inl (fun _ => 0))), (gX 55, .inl (cbX 55, 6, .inl (fun _ => 0))), (gX 56, .inl (cbX 56, 78, .inl (fun _ => 0))), (q_11, .inl (cA_12, 1, .inr (.inl (fun _ => 0))))] H := hP
  have hD : va_D A [(hY 0, .inr (12, [.ref (hY 1), .ref (hY 2), .ref (hY 3), .ref (hY 4), .ref (hY 5), .ref (hY 6), .ref (hY 8), .ref (hY 12), .ref (hY 11), .int 0, .int 0, .int (-1), .long 0, .long 0])), (hY 1, .inr (0, [.int 0, .ref e0, .int 0])), (hY 2, .inr (0, [.int 0, .ref e0, .int 0])), (hY 3, .inr (0, [.int 0, .ref e0, .int 0])), (hY 4, .inr (0, [.int 0, .ref e0, .int 0])), (hY 5, .inr (0, [.int 0, .ref e0, .int 0])), (hY 6, .inr (10, [.ref (hY 7), .int 0])), (hY 7, .inl (caX 0, 500, .inl (fun _ => 0))), (hY 8, .inr (6, [.ref (hY 9), .ref (hY 10), .int 0, .int 0, .int 0])), (hY 9, .inr (11, [.ref (hY 6), .int 0, .int 0, .int 0, .int 0])), (hY 10, .inl (caX 1, 500, .inl (fun _ => 0))), (hY 11, .inl (caX 2, 16, .inr (.inl (fun _ => 0)))), (gX 0, .inr (13, [.ref (gX 1), .int 0, .int 0, .int 0, .int 0, .int 0, .int 0, .int 0, .int 0, .int 0, .int (-1), .long 0, .long 0, .ref (gX 14), .ref (gX 15), .ref (gX 16), .ref (gX 17), .ref (gX 18), .ref (gX 19), .ref (gX 20), .ref (gX 21), .ref (gX 22), .ref (gX 23), .ref (gX 24), .ref (gX 25), .ref (gX 26), .ref (gX 27), .ref (gX 28), .ref (gX 29), .ref (gX 30), .ref (gX 31), .ref (gX 32), .ref (gX 33), .ref (gX 34), .ref (gX 35), .ref (gX 36), .ref (gX 37), .ref (gX 38), .ref (gX 39), .ref (gX 40), .ref (gX 41), .ref (gX 42), .ref (gX 43), .ref (gX 44), .ref (gX 45), .ref (gX 46), .ref (gX 47), .ref (gX 48), .ref (gX 49), .ref (gX 50), .ref (gX 51), .ref (gX 52), .ref (gX 53), .ref (gX 54), .ref (gX 55), .ref (gX 56), .ref (gX 57), .ref (gX 58), .ref (gX 59), .int 0, .int 0, .int 0, .int 0, .int 0, .int 0, .int 0, .int 0, .int 0, .int 0, .ref (gX 70)])), (gX 14, .inl (cbX 14, 10, .inl (fun _ => 0))), (gX 15, .inl (cbX 15, 10, .inl (fun _ => 0))), (gX 16, .inl (cbX 16, 10, .inl (fun _ => 0))), (gX 17, .inl (cbX 17, 10, .inl (fun _ => 0))), (gX 34, .inl (cbX 34, 120, .inl (fun _ => 0))), (gX 35, .inl (cbX 35, 120, .inl (fun _ => 0))), (gX 36, .inl (cbX 36, 400, .inl (fun _ => 0))), (gX 37, .inl (cbX 37, 400, .inl (fun _ => 0))), (gX 38, .inl (cbX 38, 400, .inl (fun _ => 0))), (gX 39, .inl (cbX 39, 400, .inl (fun _ => 0))), (gX 40, .inl (cbX 40, 400, .inl (fun _ => 0))), (gX 41, .inl (cbX 41, 400, .inl (fun _ => 0))), (gX 43, .inl (cbX 43, 400, .inl (fun _ => 0))), (gX 52, .inl (cbX 52, 16, .inr (.inl (fun _ => 0)))), (gX 53, .inl (cbX 53, 500, .inl (fun _ => 0))), (gX 54, .inl (cbX 54, 6, .inl (fun _ => 0))), (gX 55, .inl (cbX 55, 6, .inl (fun _ => 0))), (gX 56, .inl (cbX 56, 78, .inl (fun _ => 0))), (q_11, .inl (cA_12, 1, .inr (.inl (fun _ => 0))))] := hD
  have hK : va_K (dC, dI) vwCl [(caX 0, .int), (caX 1, .int), (caX 2, .long), (cbX 14, .int), (cbX 15, .int), (cbX 16, .int), (cbX 17, .int), (cbX 34, .boolean), (cbX 35, .boolean), (cbX 36, .int), (cbX 37, .int), (cbX 38, .int), (cbX 39, .int), (cbX 40, .int), (cbX 41, .int), (cbX 43, .int), (cbX 52, .long), (cbX 53, .int), (cbX 54, .int), (cbX 55, .int), (cbX 56, .int), (cA_12, .long)] s := hK
  refine lv_astore_n (lv' := [(3, .ref q_11), (2, .ref (gX 0)), (1, .ref (hY 0)), (0, .ref b)]) hx hb dL_law__19 rfl hl (by decide) rfl (fun ls hl => ?_)
  refine lv_iconst (v := 0) hx hb dL_law__20 (by decide) ?_
  refine lv_istore (lv' := [(4, .int 0), (3, .ref q_11), (2, .ref (gX 0)), (1, .ref (hY 0)), (0, .ref b)]) hx hb dL_law__21 hl (by decide) rfl (fun ls hl => ?_)
  refine W.eq (g2 := F0 m 23 ls []) rfl ?_
  refine W.widen (k := 300) (n := 100000) (Nat.le_of_ble_eq_true rfl) (Nat.le_of_ble_eq_true rfl) ?_
  refine lv_iload hx hb dL_law__23 (lv_at hl 0 rfl) ?_
  refine lv_aload_n hx hb dL_law__25 rfl (lv_at hl 4 rfl) ?_
  refine va_slen hx hb hX hbl hbA hS dL_law__26 ?_
  refine lv_bipush (v := 6) hx hb dL_law__27 (by decide) ?_
  refine lv_isub hx hb dL_law__29 ?_
  refine lv_icmp_gt (tgt := 1749) hx hb dL_law__30 (by decide) (fun c9 => ?_) (fun c9 => ?_)
  · refine lv_iconst (v := 1) hx hb dL_law__1749 (by decide) ?_
    refine va_forget (fun q hq => by have := hS.2.2 q hq; rw [← hAe] at this; exact this) ?_
    refine W.widen (k := 600002) (n := 7302232) (Nat.le_of_ble_eq_true rfl) (Nat.le_of_ble_eq_true rfl) ?_
    exact lw_ret hx hb hr hlocks dL_law__1750
  obtain rfl : L = 6 := by
    rcases Nat.lt_or_ge L 6 with h9 | h9
    · exact absurd (pk_sneg (a := L) (b := 6) (by decide) h9) c9
    · exact Nat.le_antisymm hL h9
  refine lv_aload_n hx hb dL_law__33 rfl (lv_at hl 4 rfl) ?_
  refine lv_iload hx hb dL_law__34 (lv_at hl 0 rfl) ?_
  refine va_sld hx hb hX hbl hbA hS (pz_inK (by decide)) dL_law__36 ?_
  refine lv_bipush (v := 31) hx hb dL_law__37 (by decide) ?_
  refine lv_iand hx hb dL_law__39 ?_
  refine lv_topi (fun x_13 ex_13 => ?_)
  by_cases c_14 : x_13 = 0
  ·
    subst c_14
    refine lv_tableIn (off := 112) (tgt := 152) hx hb dL_law__40 (by decide) (by decide) (by decide) (by decide) ?_
    exact lc_reach l hlt C0 e0 dC dI hY gX caX cbX q_11 cA_12 (fun _ => 0) hAe (hK.sub [3, 4, 5, 6] rfl) (hP.sub [0, 1, 12, 13, 14, 15, 16] rfl) (hD.sub [0, 1, 12, 13, 14, 15, 16] (by decide) rfl) hS hZ hV hT ls (lv_sub hl [0, 1, 2, 3, 4] rfl)
  by_cases c_15 : x_13 = 1
  ·
    subst c_15
    refine lv_tableIn (off := 173) (tgt := 213) hx hb dL_law__40 (by decide) (by decide) (by decide) (by decide) ?_
    exact lc_dam l hlt C0 e0 dC dI hY gX caX cbX q_11 cA_12 (fun _ => 0) hAe (hK.sub [21] rfl) (hP.sub [0, 1, 31, 12] rfl) (hD.sub [0, 1, 31, 12] (by decide) rfl) hS hZ hV hT ls (lv_sub hl [0, 1, 2, 3, 4] rfl)
  by_cases c_16 : x_13 = 2
  ·
    subst c_16
    refine lv_tableIn (off := 248) (tgt := 288) hx hb dL_law__40 (by decide) (by decide) (by decide) (by decide) ?_
    exact lc_gate l hlt C0 e0 dC dI hY gX caX cbX q_11 cA_12 (fun _ => 0) hAe (hK.sub [21] rfl) (hP.sub [0, 1, 31, 12] rfl) (hD.sub [0, 1, 31, 12] (by decide) rfl) hS hZ hV hT ls (lv_sub hl [0, 1, 2, 3, 4] rfl)
  by_cases c_17 : x_13 = 3
  ·
    subst c_17
    refine lv_tableIn (off := 316) (tgt := 356) hx hb dL_law__40 (by decide) (by decide) (by decide) (by decide) ?_
    exact lc_melt l hlt C0 e0 dC dI hY gX caX cbX q_11 cA_12 (fun _ => 0) hAe (hK.sub [21] rfl) (hP.sub [0, 1, 31, 12] rfl) (hD.sub [0, 1, 31, 12] (by decide) rfl) hS hZ hV hT ls (lv_sub hl [0, 1, 2, 3, 4] rfl)
  by_cases c_18 : x_13 = 4
  ·
    subst c_18
    refine lv_tableIn (off := 384) (tgt := 424) hx hb dL_law__40 (by decide) (by decide) (by decide) (by decide) ?_
    exact lc_boom l hlt C0 e0 dC dI hY gX caX cbX q_11 cA_12 (fun _ => 0) hAe (hK.sub [21] rfl) (hP.sub [0, 1, 31, 12] rfl) (hD.sub [0, 1, 31, 12] (by decide) rfl) hS hZ hV hT ls (lv_sub hl [0, 1, 2, 3, 4] rfl)
  by_cases c_19 : x_13 = 5
  ·
    subst c_19
    refine lv_tableIn (off := 471) (tgt := 511) hx hb dL_law__40 (by decide) (by decide) (by decide) (by decide) ?_
    exact lc_watch l hlt C0 e0 dC dI hY gX caX cbX q_11 cA_12 (fun _ => 0) hAe (hK.sub [21] rfl) (hP.sub [0, 1, 31, 12] rfl) (hD.sub [0, 1, 31, 12] (by decide) rfl) hS hZ hV hT ls (lv_sub hl [0, 1, 2, 3, 4] rfl)
  by_cases c_20 : x_13 = 6
  ·
    subst c_20
    refine lv_tableIn (off := 562) (tgt := 602) hx hb dL_law__40 (by decide) (by decide) (by decide) (by decide) ?_
    exact lc_crew l hlt C0 e0 dC dI hY gX caX cbX q_11 cA_12 (fun _ => 0) hAe (hK.sub [21] rfl) (hP.sub [0, 1, 31, 12] rfl) (hD.sub [0, 1, 31, 12] (by decide) rfl) hS hZ hV hT ls (lv_sub hl [0, 1, 2, 3, 4] rfl)
  by_cases c_21 : x_13 = 7
  ·
    subst c_21
    refine lv_tableIn (off := 630) (tgt := 670) hx hb dL_law__40 (by decide) (by decide) (by decide) (by decide) ?_
    exact lc_feed l hlt C0 e0 dC dI hY gX caX cbX q_11 cA_12 (fun _ => 0) hAe (hK.sub [0, 17] rfl) (hP.sub [0, 6, 7, 12, 27] rfl) (hD.sub [0, 6, 7, 12, 27] (by decide) rfl) hS hZ hV hT ls (lv_sub hl [0, 1, 2, 3, 4] rfl)
  by_cases c_22 : x_13 = 8
  ·
    subst c_22
    refine lv_tableIn (off := 703) (tgt := 743) hx hb dL_law__40 (by decide) (by decide) (by decide) (by decide) ?_
    exact lc_law l hlt C0 e0 dC dI hY gX caX cbX q_11 cA_12 (fun _ => 0) hAe (hK.sub [0, 1, 21, 18, 20, 19] rfl) (hP.sub [0, 3, 6, 7, 8, 9, 10, 31, 12, 28, 30, 29] rfl) (hD.sub [0, 3, 6, 7, 8, 9, 10, 31, 12, 28, 30, 29] (by decide) rfl) hS hZ hV hT ls (lv_sub hl [0, 1, 2, 3, 4] rfl)
  by_cases c_23 : x_13 = 9
  ·
    subst c_23
    refine lv_tableIn (off := 771) (tgt := 811) hx hb dL_law__40 (by decide) (by decide) (by decide) (by decide) ?_
    exact lc_fault l hlt C0 e0 dC dI hY gX caX cbX q_11 cA_12 (fun _ => 0) hAe (hK.sub [] rfl) (hP.sub [0, 12] rfl) (hD.sub [0, 12] (by decide) rfl) hS hZ hV hT ls (lv_sub hl [0, 1, 2, 3, 4] rfl)
  by_cases c_24 : x_13 = 10
  ·
    subst c_24
    refine lv_tableIn (off := 784) (tgt := 824) hx hb dL_law__40 (by decide) (by decide) (by decide) (by decide) ?_
    exact lc_cut l hlt C0 e0 dC dI hY gX caX cbX q_11 cA_12 (fun _ => 0) hAe (hK.sub [9, 10, 11, 12, 13, 14, 15] rfl) (hP.sub [0, 2, 12, 19, 20, 21, 22, 23, 24, 25] rfl) (hD.sub [0, 2, 12, 19, 20, 21, 22, 23, 24, 25] (by decide) rfl) hS hZ hV hT ls (lv_sub hl [0, 1, 2, 3, 4] rfl)
  by_cases c_25 : x_13 = 11
  ·
    subst c_25
    refine lv_tableIn (off := 833) (tgt := 873) hx hb dL_law__40 (by decide) (by decide) (by decide) (by decide) ?_
    exact lc_let l hlt C0 e0 dC dI hY gX caX cbX q_11 cA_12 (fun _ => 0) hAe (hK.sub [21] rfl) (hP.sub [0, 2, 31, 12] rfl) (hD.sub [0, 2, 31, 12] (by decide) rfl) hS hZ hV hT ls (lv_sub hl [0, 1, 2, 3, 4] rfl)
  by_cases c_26 : x_13 = 12
  ·
    subst c_26
    refine lv_tableIn (off := 913) (tgt := 953) hx hb dL_law__40 (by decide) (by decide) (by decide) (by decide) ?_
    exact lc_hours l hlt C0 e0 dC dI hY gX caX cbX q_11 cA_12 (fun _ => 0) hAe (hK.sub [21] rfl) (hP.sub [0, 1, 4, 31, 12] rfl) (hD.sub [0, 1, 4, 31, 12] (by decide) rfl) hS hZ hV hT ls (lv_sub hl [0, 1, 2, 3, 4] rfl)
  by_cases c_27 : x_13 = 13
  ·
    subst c_27
    refine lv_tableIn (off := 969) (tgt := 1009) hx hb dL_law__40 (by decide) (by decide) (by decide) (by decide) ?_
    exact lc_order l hlt C0 e0 dC dI hY gX caX cbX q_11 cA_12 (fun _ => 0) hAe (hK.sub [21] rfl) (hP.sub [0, 1, 31, 12] rfl) (hD.sub [0, 1, 31, 12] (by decide) rfl) hS hZ hV hT ls (lv_sub hl [0, 1, 2, 3, 4] rfl)
  by_cases c_28 : x_13 = 14
  ·
    subst c_28
    refine lv_tableIn (off := 1061) (tgt := 1101) hx hb dL_law__40 (by decide) (by decide) (by decide) (by decide) ?_
    exact lc_wants l hlt C0 e0 dC dI hY gX caX cbX q_11 cA_12 (fun _ => 0) hAe (hK.sub [21] rfl) (hP.sub [0, 5, 31, 12] rfl) (hD.sub [0, 5, 31, 12] (by decide) rfl) hS hZ hV hT ls (lv_sub hl [0, 1, 2, 3, 4] rfl)
  by_cases c_29 : x_13 = 15
  ·
    subst c_29
    refine lv_tableIn (off := 1117) (tgt := 1157) hx hb dL_law__40 (by decide) (by decide) (by decide) (by decide) ?_
    exact lc_log l hlt C0 e0 dC dI hY gX caX cbX q_11 cA_12 (fun _ => 0) hAe (hK.sub [21] rfl) (hP.sub [0, 2, 31, 12] rfl) (hD.sub [0, 2, 31, 12] (by decide) rfl) hS hZ hV hT ls (lv_sub hl [0, 1, 2, 3, 4] rfl)
  by_cases c_30 : x_13 = 16
  ·
    subst c_30
    refine lv_tableIn (off := 1185) (tgt := 1225) hx hb dL_law__40 (by decide) (by decide) (by decide) (by decide) ?_
    exact lc_cell l hlt C0 e0 dC dI hY gX caX cbX q_11 cA_12 (fun _ => 0) hAe (hK.sub [21] rfl) (hP.sub [0, 1, 31, 12] rfl) (hD.sub [0, 1, 31, 12] (by decide) rfl) hS hZ hV hT ls (lv_sub hl [0, 1, 2, 3, 4] rfl)
  by_cases c_31 : x_13 = 17
  ·
    subst c_31
    refine lv_tableIn (off := 1265) (tgt := 1305) hx hb dL_law__40 (by decide) (by decide) (by decide) (by decide) ?_
    exact lc_inCell l hlt C0 e0 dC dI hY gX caX cbX q_11 cA_12 (fun _ => 0) hAe (hK.sub [21] rfl) (hP.sub [0, 1, 31, 12] rfl) (hD.sub [0, 1, 31, 12] (by decide) rfl) hS hZ hV hT ls (lv_sub hl [0, 1, 2, 3, 4] rfl)
  by_cases c_32 : x_13 = 18
  ·
    subst c_32
    refine lv_tableIn (off := 1345) (tgt := 1385) hx hb dL_law__40 (by decide) (by decide) (by decide) (by decide) ?_
    exact lc_heap l hlt C0 e0 dC dI hY gX caX cbX q_11 cA_12 (fun _ => 0) hAe (hK.sub [21] rfl) (hP.sub [0, 1, 31, 12] rfl) (hD.sub [0, 1, 31, 12] (by decide) rfl) hS hZ hV hT ls (lv_sub hl [0, 1, 2, 3, 4] rfl)
  by_cases c_33 : x_13 = 19
  ·
    subst c_33
    refine lv_tableIn (off := 1413) (tgt := 1453) hx hb dL_law__40 (by decide) (by decide) (by decide) (by decide) ?_
    exact lc_water l hlt C0 e0 dC dI hY gX caX cbX q_11 cA_12 (fun _ => 0) hAe (hK.sub [21] rfl) (hP.sub [0, 1, 31, 12] rfl) (hD.sub [0, 1, 31, 12] (by decide) rfl) hS hZ hV hT ls (lv_sub hl [0, 1, 2, 3, 4] rfl)
  by_cases c_34 : x_13 = 20
  ·
    subst c_34
    refine lv_tableIn (off := 1481) (tgt := 1521) hx hb dL_law__40 (by decide) (by decide) (by decide) (by decide) ?_
    exact lc_waters l hlt C0 e0 dC dI hY gX caX cbX q_11 cA_12 (fun _ => 0) hAe (hK.sub [21] rfl) (hP.sub [0, 31, 12] rfl) (hD.sub [0, 31, 12] (by decide) rfl) hS hZ hV hT ls (lv_sub hl [0, 1, 2, 3, 4] rfl)
  by_cases c_35 : x_13 = 21
  ·
    subst c_35
    refine lv_tableIn (off := 1536) (tgt := 1576) hx hb dL_law__40 (by decide) (by decide) (by decide) (by decide) ?_
    exact lc_board l hlt C0 e0 dC dI hY gX caX cbX q_11 cA_12 (fun _ => 0) hAe (hK.sub [21] rfl) (hP.sub [0, 2, 31, 12] rfl) (hD.sub [0, 2, 31, 12] (by decide) rfl) hS hZ hV hT ls (lv_sub hl [0, 1, 2, 3, 4] rfl)
  by_cases c_36 : x_13 = 22
  ·
    subst c_36
    refine lv_tableIn (off := 1592) (tgt := 1632) hx hb dL_law__40 (by decide) (by decide) (by decide) (by decide) ?_
    exact lc_paid l hlt C0 e0 dC dI hY gX caX cbX q_11 cA_12 (fun _ => 0) hAe (hK.sub [2, 21, 16] rfl) (hP.sub [0, 11, 31, 12, 26] rfl) (hD.sub [0, 11, 31, 12, 26] (by decide) rfl) hS hZ hV hT ls (lv_sub hl [0, 1, 2, 3, 4] rfl)
  by_cases c_37 : x_13 = 23
  ·
    subst c_37
    refine lv_tableIn (off := 1647) (tgt := 1687) hx hb dL_law__40 (by decide) (by decide) (by decide) (by decide) ?_
    exact lc_count l hlt C0 e0 dC dI hY gX caX cbX q_11 cA_12 (fun _ => 0) hAe (hK.sub [21, 7, 8] rfl) (hP.sub [0, 1, 2, 3, 4, 5, 6, 31, 12, 17, 18] rfl) (hD.sub [0, 1, 2, 3, 4, 5, 6, 31, 12, 17, 18] (by decide) rfl) hS hZ hV hT ls (lv_sub hl [0, 1, 2, 3, 4] rfl)
  have ic_14 : x_13.toInt ≠ 0 := fun h9 => c_14 (Int32.toInt_inj.mp (h9.trans (by decide)))
  have ic_15 : x_13.toInt ≠ 1 := fun h9 => c_15 (Int32.toInt_inj.mp (h9.trans (by decide)))
  have ic_16 : x_13.toInt ≠ 2 := fun h9 => c_16 (Int32.toInt_inj.mp (h9.trans (by decide)))
  have ic_17 : x_13.toInt ≠ 3 := fun h9 => c_17 (Int32.toInt_inj.mp (h9.trans (by decide)))
  have ic_18 : x_13.toInt ≠ 4 := fun h9 => c_18 (Int32.toInt_inj.mp (h9.trans (by decide)))
  have ic_19 : x_13.toInt ≠ 5 := fun h9 => c_19 (Int32.toInt_inj.mp (h9.trans (by decide)))
  have ic_20 : x_13.toInt ≠ 6 := fun h9 => c_20 (Int32.toInt_inj.mp (h9.trans (by decide)))
  have ic_21 : x_13.toInt ≠ 7 := fun h9 => c_21 (Int32.toInt_inj.mp (h9.trans (by decide)))
  have ic_22 : x_13.toInt ≠ 8 := fun h9 => c_22 (Int32.toInt_inj.mp (h9.trans (by decide)))
  have ic_23 : x_13.toInt ≠ 9 := fun h9 => c_23 (Int32.toInt_inj.mp (h9.trans (by decide)))
  have ic_24 : x_13.toInt ≠ 10 := fun h9 => c_24 (Int32.toInt_inj.mp (h9.trans (by decide)))
  have ic_25 : x_13.toInt ≠ 11 := fun h9 => c_25 (Int32.toInt_inj.mp (h9.trans (by decide)))
  have ic_26 : x_13.toInt ≠ 12 := fun h9 => c_26 (Int32.toInt_inj.mp (h9.trans (by decide)))
  have ic_27 : x_13.toInt ≠ 13 := fun h9 => c_27 (Int32.toInt_inj.mp (h9.trans (by decide)))
  have ic_28 : x_13.toInt ≠ 14 := fun h9 => c_28 (Int32.toInt_inj.mp (h9.trans (by decide)))
  have ic_29 : x_13.toInt ≠ 15 := fun h9 => c_29 (Int32.toInt_inj.mp (h9.trans (by decide)))
  have ic_30 : x_13.toInt ≠ 16 := fun h9 => c_30 (Int32.toInt_inj.mp (h9.trans (by decide)))
  have ic_31 : x_13.toInt ≠ 17 := fun h9 => c_31 (Int32.toInt_inj.mp (h9.trans (by decide)))
  have ic_32 : x_13.toInt ≠ 18 := fun h9 => c_32 (Int32.toInt_inj.mp (h9.trans (by decide)))
  have ic_33 : x_13.toInt ≠ 19 := fun h9 => c_33 (Int32.toInt_inj.mp (h9.trans (by decide)))
  have ic_34 : x_13.toInt ≠ 20 := fun h9 => c_34 (Int32.toInt_inj.mp (h9.trans (by decide)))
  have ic_35 : x_13.toInt ≠ 21 := fun h9 => c_35 (Int32.toInt_inj.mp (h9.trans (by decide)))
  have ic_36 : x_13.toInt ≠ 22 := fun h9 => c_36 (Int32.toInt_inj.mp (h9.trans (by decide)))
  have ic_37 : x_13.toInt ≠ 23 := fun h9 => c_37 (Int32.toInt_inj.mp (h9.trans (by decide)))
  refine lv_tableOut (tgt := 1743) hx hb dL_law__40 (by omega) (by decide) ?_
  exact lc_end l C0 (Nat.le_of_ble_eq_true rfl) (Nat.le_of_ble_eq_true rfl) hAe hS ls (lv_sub hl [0, 4] rfl)
set_option maxHeartbeats 4000000 in
theorem lw_walk (l : Launch) (hlt : l.stackTraces = false) (b : Addr) (xs : List Int32) : MetFree l x (headSpec (Jvm.Cond.code x code maxLocals ret :: tables_1) room_1) (lw_P b xs) (fun _ _ _ _ _ => True) lw_Q := by
  refine MetFree.of_bodyS (code := code) (maxLocals := maxLocals) (ret := ret) (by decide) ?_ ?_
  · intro args s m h hn
    obtain ⟨meth, c, h1, h2, h3, h4, h5, h6, -, -⟩ := Cond.code_spec hn (atoms_spec (ws := Jvm.Cond.code x code maxLocals ret :: tables_1) h _ List.mem_cons_self)
    exact ⟨meth, c, h1, h2, h3, h4, h5, h6⟩
  · intro p e s m args below meth c s₁ B hml0 hP _
    obtain ⟨rfl, hx, hbd, hgv⟩ := hP
    obtain ⟨scr, harrAt, hlist, hof, hsmall⟩ := hx
    obtain ⟨hcb, hkn, -, -⟩ := State.arrayAt?_spec harrAt
    have hown : s.vm.findClass R_law = some m.cls := findClass_of_methodNamed B.named
    have hts0 : ∀ c ∈ (Jvm.Cond.code x code maxLocals ret :: tables_1), c.before #[Value.ref b] s = true := atoms_spec (ws := Jvm.Cond.code x code maxLocals ret :: tables_1) B.pre
    have hts : ∀ w ∈ lw_tbl, w.before #[Value.ref b] s = true := k2_hts_sels lw_privs (fun w hw => hts0 w (List.mem_cons_of_mem _ hw)) lw_privs_ok
    have hml : c.maxLocals = 8 := B.maxLocals_eq (hts0 _ List.mem_cons_self)
    have X₀ : Stand p l e room_1 s m #[Value.ref b] below meth c s₁ [] 0 0 := Stand.of_body B
    have hh0 : s₁.heap = s.heap := by rw [B.state]; rfl
    have hsz : scr.slots.size = xs.length := by rw [← Array.length_toList, hlist, List.length_map]
    have hval : ∀ j : Nat, j < xs.length → scr.slots[j]? = some (.int (xs.getD j 0)) := fun j hj => by
      rw [← Array.getElem?_toList, hlist]
      simp [hj]
    have hbl : b < s.heap.size := (Array.getElem?_eq_some_iff.mp hcb).1
    have hX : va_X b xs.length (fun j => xs.getD j 0) s s.heap := ⟨scr, hcb, hof, hkn, hsz, hval⟩
    have K : W p l e room_1 s m #[Value.ref b] below meth c s₁.heap [] 0 0 (lw_Z below #[Value.ref b] s) (entryFrame m ([Value.ref b] : List Value).toArray 8) := by
      rw [hh0]
      exact whole_start l hlt hbd ⟨B.exec, B.bytes, B.returns, hml, hown, hts, hX, hbl, B.notSynchronized, hgv⟩
    obtain ⟨t, a1, o, b1, b2, b3⟩ := K s₁ rfl X₀
    exact ⟨t, o, a1, b1, b2, b3⟩
theorem lw_pre_spec {args : Array Value} {s : State} (h : (Jvm.Cond.and given_1 narrow_1).before args s = true) (hr : rest_1_c.before args s = true) : ∃ (b : Addr) (xs : List Int32), lw_P b xs args s := by
  have hs := flat_of_before _ h
  have hq := flat_of_before _ hr
  have hc : (Cond.count 1).before args s = true := hs _ (by decide +kernel)
  have harr : (Cond.arrayOf (.arg 0) .int).before args s = true := hs _ (by decide +kernel)
  have hle : (Cond.le (.length (.arg 0)) (.int 6)).before args s = true := hs _ (by decide +kernel)
  have hlen : (Cond.isInt (.length (.arg 0))).before args s = true := hq _ (by decide +kernel)
  have hall : (Cond.all (.arg 0) (.isInt (.elem (.arg 0) (.index 0)))).before args s = true := hq _ (by decide +kernel)
  obtain ⟨b, xs, hb, hx⟩ := State.ints_of_pre rfl harr hlen hall
  have hsm : xs.length < 2 ^ 31 := hx.choose_spec.2.2.2
  have hev : (Term.length (.arg 0)).eval args s none [] s = some (.int xs.length.toInt32) := hx.length_eval hb
  have hv := Cond.le_ints hev (show (Term.int 6).eval args s none [] s = some (.int 6) from rfl)
  have hd : xs.length.toInt32 ≤ 6 := by
    simpa [Cond.before, Cond.holds, hv] using hle
  have hN : xs.length ≤ 6 := (Int32.ofNat_le_ofNat hsm (by decide)).mp (show Int32.ofNat xs.length ≤ Int32.ofNat 6 from hd)
  exact ⟨b, xs, Cond.one_arg hc (show args[0]? = some (.ref b) from hb), hx, hN, h⟩
theorem lw_comes (l : Launch) (hlt : l.stackTraces = false) : Comes l x (Jvm.Cond.code x code maxLocals ret :: tables_1) room_1 (fun tb e args s => Calls_1 tb e args s ∧ rest_1 tb e args s ∧ Pre_1 tb e args s)
    (fun _ _ args s o t => lw_Q args s o t) := by
  intro p e ha hc hk s m args below hf hfit hheap happ hpre
  obtain ⟨b, xs, hP⟩ := lw_pre_spec hpre.2.2 hpre.2.1
  obtain ⟨k, o, h1, h2, h3, hQ⟩ := lw_walk l hlt b xs p e ha hc hk s m args below hf ((Spec.applies_iff_loose hf).mp happ).1 hP trivial
  exact ⟨k, o, h1, h2, h3, hQ⟩
theorem lw_frame {s t : State} {o : Outcome} {args : Array Value} (h : Framed s o t [] 600002 7302232) :
    Framed s o t (fieldLocs frame_1_writes args s ++ arrayLocs frame_1_arrays args s ++ staticLocs frame_1_statics s) 600002 7302232 := h
theorem lw_limb (L : Cond) (hL : ∀ (args : Array Value) (s t : State), L.after args s (.returned (some (.int 1))) t = true) :
    ArmFor flags0 classFile x code maxLocals ret World_1 tables_1 room_1 Calls_1 rest_1 Pre_1
      (fun tb e a s o t => postC L tb e a s o t ∧ Framed s o t (fieldLocs frame_1_writes a s ++ arrayLocs frame_1_arrays a s ++ staticLocs frame_1_statics s) 600002 7302232) := by
  intro l hfl _ _ p e ha hc hk s m args below hf hfit hheap happ hpre
  have hlt : l.stackTraces = false := by unfold Launch.stackTraces; rw [hfl]; decide +kernel
  obtain ⟨k, o, h1, h2, h3, rfl, hF⟩ := lw_comes l hlt p e ha hc hk s m args below hf hfit hheap happ hpre
  exact ⟨k, _, h1, h2, h3, hL args s _, lw_frame hF⟩
theorem i_vc : Claimed_1_1 ∧ Claimed_1_2 := ⟨lw_limb limb_1_1 (fun args s t => by simp [limb_1_1, Cond.after, Cond.holds, Cond.value]), lw_limb limb_1_2 (fun args s t => Cond.after_iff.mpr (by
  first | (rw [show limb_1_2 = Cond.eq .result (.int 1) from rfl, Cond.eq_ints (x := 1) (y := 1) rfl rfl]; simp; done) | (simp [limb_1_2, Cond.value, Term.eval]; done)))⟩

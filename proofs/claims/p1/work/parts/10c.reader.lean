theorem dX10_advance_0 : decode cX10_advance 0 = .ok (.aload_n 0, 1) := by decide +kernel
theorem dX10_advance_1 : decode cX10_advance 1 = .ok (.aload_n 0, 1) := by decide +kernel
theorem dX10_advance_2 : decode cX10_advance 2 = .ok (.aload_n 0, 1) := by decide +kernel
theorem dX10_advance_3 : decode cX10_advance 3 = .ok (.getfield 19, 3) := by decide +kernel
theorem dX10_advance_6 : decode cX10_advance 6 = .ok (.iconst 5, 1) := by decide +kernel
theorem dX10_advance_7 : decode cX10_advance 7 = .ok (.invokevirtual 25, 3) := by decide +kernel
theorem dX10_advance_10 : decode cX10_advance 10 = .ok (.putfield 29, 3) := by decide +kernel
theorem dX10_advance_13 : decode cX10_advance 13 = .ok (.aload_n 0, 1) := by decide +kernel
theorem dX10_advance_14 : decode cX10_advance 14 = .ok (.aload_n 0, 1) := by decide +kernel
theorem dX10_advance_15 : decode cX10_advance 15 = .ok (.aload_n 0, 1) := by decide +kernel
theorem dX10_advance_16 : decode cX10_advance 16 = .ok (.getfield 29, 3) := by decide +kernel
theorem dX10_advance_19 : decode cX10_advance 19 = .ok (.invokevirtual 32, 3) := by decide +kernel
theorem dX10_advance_22 : decode cX10_advance 22 = .ok (.invokestatic 36, 3) := by decide +kernel
theorem dX10_advance_25 : decode cX10_advance 25 = .ok (.putfield 39, 3) := by decide +kernel
theorem dX10_advance_28 : decode cX10_advance 28 = .ok (.aload_n 0, 1) := by decide +kernel
theorem dX10_advance_29 : decode cX10_advance 29 = .ok (.getfield 39, 3) := by decide +kernel
theorem dX10_advance_32 : decode cX10_advance 32 = .ok (.iconst 1, 1) := by decide +kernel
theorem dX10_advance_33 : decode cX10_advance 33 = .ok (.if_icmp .eq 11, 3) := by decide +kernel
theorem dX10_advance_36 : decode cX10_advance 36 = .ok (.aload_n 0, 1) := by decide +kernel
theorem dX10_advance_37 : decode cX10_advance 37 = .ok (.getfield 39, 3) := by decide +kernel
theorem dX10_advance_40 : decode cX10_advance 40 = .ok (.iconst 2, 1) := by decide +kernel
theorem dX10_advance_41 : decode cX10_advance 41 = .ok (.if_icmp .ne 22, 3) := by decide +kernel
theorem dX10_advance_63 : decode cX10_advance 63 = .ok (.aload_n 0, 1) := by decide +kernel
theorem dX10_advance_64 : decode cX10_advance 64 = .ok (.aload_n 0, 1) := by decide +kernel
theorem dX10_advance_65 : decode cX10_advance 65 = .ok (.getfield 29, 3) := by decide +kernel
theorem dX10_advance_68 : decode cX10_advance 68 = .ok (.iconst 1, 1) := by decide +kernel
theorem dX10_advance_69 : decode cX10_advance 69 = .ok (.iadd, 1) := by decide +kernel
theorem dX10_advance_70 : decode cX10_advance 70 = .ok (.aload_n 0, 1) := by decide +kernel
theorem dX10_advance_71 : decode cX10_advance 71 = .ok (.getfield 15, 3) := by decide +kernel
theorem dX10_advance_74 : decode cX10_advance 74 = .ok (.invokestatic 42, 3) := by decide +kernel
theorem dX10_advance_77 : decode cX10_advance 77 = .ok (.putfield 19, 3) := by decide +kernel
theorem dX10_advance_80 : decode cX10_advance 80 = .ok (.aload_n 0, 1) := by decide +kernel
theorem dX10_advance_81 : decode cX10_advance 81 = .ok (.getfield 39, 3) := by decide +kernel
theorem dX10_advance_84 : decode cX10_advance 84 = .ok (.iconst 2, 1) := by decide +kernel
theorem dX10_advance_85 : decode cX10_advance 85 = .ok (.if_icmp .ne 22, 3) := by decide +kernel
theorem dX10_advance_107 : decode cX10_advance 107 = .ok (.return_, 1) := by decide +kernel
theorem dX10_byteAt_0 : decode cX10_byteAt 0 = .ok (.iload_n 1, 1) := by decide +kernel
theorem dX10_byteAt_1 : decode cX10_byteAt 1 = .ok (.ifCond .lt 35, 3) := by decide +kernel
theorem dX10_byteAt_4 : decode cX10_byteAt 4 = .ok (.iload_n 1, 1) := by decide +kernel
theorem dX10_byteAt_5 : decode cX10_byteAt 5 = .ok (.aload_n 0, 1) := by decide +kernel
theorem dX10_byteAt_6 : decode cX10_byteAt 6 = .ok (.getfield 15, 3) := by decide +kernel
theorem dX10_byteAt_9 : decode cX10_byteAt 9 = .ok (.if_icmp .ge 27, 3) := by decide +kernel
theorem dX10_byteAt_36 : decode cX10_byteAt 36 = .ok (.iconst (-1), 1) := by decide +kernel
theorem dX10_byteAt_37 : decode cX10_byteAt 37 = .ok (.ireturn, 1) := by decide +kernel
theorem dX10_endOfRow_0 : decode cX10_endOfRow 0 = .ok (.iload_n 1, 1) := by decide +kernel
theorem dX10_endOfRow_1 : decode cX10_endOfRow 1 = .ok (.istore_n 3, 1) := by decide +kernel
theorem dX10_endOfRow_2 : decode cX10_endOfRow 2 = .ok (.iload_n 3, 1) := by decide +kernel
theorem dX10_endOfRow_3 : decode cX10_endOfRow 3 = .ok (.aload_n 0, 1) := by decide +kernel
theorem dX10_endOfRow_4 : decode cX10_endOfRow 4 = .ok (.getfield 15, 3) := by decide +kernel
theorem dX10_endOfRow_7 : decode cX10_endOfRow 7 = .ok (.if_icmp .ge 21, 3) := by decide +kernel
theorem dX10_endOfRow_28 : decode cX10_endOfRow 28 = .ok (.iload_n 3, 1) := by decide +kernel
theorem dX10_endOfRow_29 : decode cX10_endOfRow 29 = .ok (.ireturn, 1) := by decide +kernel
theorem dX10_kindOf_0 : decode cX10_kindOf 0 = .ok (.iload_n 0, 1) := by decide +kernel
theorem dX10_kindOf_1 : decode cX10_kindOf 1 = .ok (.bipush 97, 2) := by decide +kernel
theorem dX10_kindOf_3 : decode cX10_kindOf 3 = .ok (.if_icmp .lt 11, 3) := by decide +kernel
theorem dX10_kindOf_14 : decode cX10_kindOf 14 = .ok (.iload_n 0, 1) := by decide +kernel
theorem dX10_kindOf_15 : decode cX10_kindOf 15 = .ok (.bipush 48, 2) := by decide +kernel
theorem dX10_kindOf_17 : decode cX10_kindOf 17 = .ok (.if_icmp .lt 11, 3) := by decide +kernel
theorem dX10_kindOf_28 : decode cX10_kindOf 28 = .ok (.iload_n 0, 1) := by decide +kernel
theorem dX10_kindOf_29 : decode cX10_kindOf 29 = .ok (.lookupswitch 113 #[(-1, 107), (10, 109), (32, 109), (40, 111), (41, 111), (42, 111), (43, 111), (45, 111), (47, 111), (59, 111), (60, 111), (61, 111)], 107) := by decide +kernel
theorem dX10_kindOf_136 : decode cX10_kindOf 136 = .ok (.iconst 0, 1) := by decide +kernel
theorem dX10_kindOf_137 : decode cX10_kindOf 137 = .ok (.ireturn, 1) := by decide +kernel
theorem dX10_openText_0 : decode cX10_openText 0 = .ok (.aload_n 0, 1) := by decide +kernel
theorem dX10_openText_1 : decode cX10_openText 1 = .ok (.iload_n 1, 1) := by decide +kernel
theorem dX10_openText_2 : decode cX10_openText 2 = .ok (.putfield 15, 3) := by decide +kernel
theorem dX10_openText_5 : decode cX10_openText 5 = .ok (.aload_n 0, 1) := by decide +kernel
theorem dX10_openText_6 : decode cX10_openText 6 = .ok (.iconst 0, 1) := by decide +kernel
theorem dX10_openText_7 : decode cX10_openText 7 = .ok (.putfield 19, 3) := by decide +kernel
theorem dX10_openText_10 : decode cX10_openText 10 = .ok (.aload_n 0, 1) := by decide +kernel
theorem dX10_openText_11 : decode cX10_openText 11 = .ok (.invokevirtual 22, 3) := by decide +kernel
theorem dX10_openText_14 : decode cX10_openText 14 = .ok (.return_, 1) := by decide +kernel
theorem dX5_readText_0 : decode cX5_readText 0 = .ok (.aload_n 0, 1) := by decide +kernel
theorem dX5_readText_1 : decode cX5_readText 1 = .ok (.iconst 0, 1) := by decide +kernel
theorem dX5_readText_2 : decode cX5_readText 2 = .ok (.putfield 26, 3) := by decide +kernel
theorem dX5_readText_5 : decode cX5_readText 5 = .ok (.aload_n 0, 1) := by decide +kernel
theorem dX5_readText_6 : decode cX5_readText 6 = .ok (.iconst 0, 1) := by decide +kernel
theorem dX5_readText_7 : decode cX5_readText 7 = .ok (.putfield 30, 3) := by decide +kernel
theorem dX5_readText_10 : decode cX5_readText 10 = .ok (.aload_n 0, 1) := by decide +kernel
theorem dX5_readText_11 : decode cX5_readText 11 = .ok (.iconst (-1), 1) := by decide +kernel
theorem dX5_readText_12 : decode cX5_readText 12 = .ok (.putfield 33, 3) := by decide +kernel
theorem dX5_readText_15 : decode cX5_readText 15 = .ok (.aload_n 0, 1) := by decide +kernel
theorem dX5_readText_16 : decode cX5_readText 16 = .ok (.getfield 14, 3) := by decide +kernel
theorem dX5_readText_19 : decode cX5_readText 19 = .ok (.iload_n 1, 1) := by decide +kernel
theorem dX5_readText_20 : decode cX5_readText 20 = .ok (.invokevirtual 36, 3) := by decide +kernel
theorem dX5_readText_23 : decode cX5_readText 23 = .ok (.iconst 0, 1) := by decide +kernel
theorem dX5_readText_24 : decode cX5_readText 24 = .ok (.istore_n 2, 1) := by decide +kernel
theorem dX5_readText_25 : decode cX5_readText 25 = .ok (.iload_n 2, 1) := by decide +kernel
theorem dX5_readText_26 : decode cX5_readText 26 = .ok (.bipush 12, 2) := by decide +kernel
theorem dX5_readText_28 : decode cX5_readText 28 = .ok (.if_icmp .gt 31, 3) := by decide +kernel
theorem dX5_readText_31 : decode cX5_readText 31 = .ok (.aload_n 0, 1) := by decide +kernel
theorem dX5_readText_32 : decode cX5_readText 32 = .ok (.getfield 14, 3) := by decide +kernel
theorem dX5_readText_35 : decode cX5_readText 35 = .ok (.getfield 40, 3) := by decide +kernel
theorem dX5_readText_38 : decode cX5_readText 38 = .ok (.ifCond .eq 21, 3) := by decide +kernel
theorem dX5_readText_59 : decode cX5_readText 59 = .ok (.return_, 1) := by decide +kernel
set_option maxRecDepth 20000 in
theorem ggX10_advance_X10_byteAt : GoodIn wsX10_advance wsX10_byteAt := goodIn_r _ [17, 4, 18, 19, 23, 24, 25, 26, 27, 28, 29] (by decide +kernel) (by decide +kernel)
set_option maxRecDepth 20000 in
theorem gX10_advance_X10_byteAt : GoodIn wsX10_advance (wsV RX10 32 RX10 yX10_byteAt wsX10_byteAt) := goodIn_app (goodIn_of _ (by decide +kernel)) ggX10_advance_X10_byteAt
set_option maxRecDepth 20000 in
theorem ggX10_advance_X10_endOfRow : GoodIn wsX10_advance wsX10_endOfRow := goodIn_r _ [13, 4, 14, 15, 16, 12, 17, 18, 19, 20, 21, 22, 23, 24, 25, 26, 27, 28, 29] (by decide +kernel) (by decide +kernel)
set_option maxRecDepth 20000 in
theorem gX10_advance_X10_endOfRow : GoodIn wsX10_advance (wsV RX10 25 RX10 yX10_endOfRow wsX10_endOfRow) := goodIn_app (goodIn_of _ (by decide +kernel)) ggX10_advance_X10_endOfRow
set_option maxRecDepth 20000 in
theorem ggX10_advance_X10_kindOf : GoodIn wsX10_advance wsX10_kindOf := goodIn_r _ [22] (by decide +kernel) (by decide +kernel)
set_option maxRecDepth 20000 in
theorem gX10_advance_X10_kindOf : GoodIn wsX10_advance (va_wsS RX10 36 yX10_kindOf wsX10_kindOf) := goodIn_app (goodIn_of _ (by decide +kernel)) ggX10_advance_X10_kindOf
set_option maxRecDepth 20000 in
theorem ggX10_openText_X10_advance : GoodIn wsX10_openText wsX10_advance := goodIn_r _ [7, 2, 8, 9, 1, 10, 11, 12, 13, 14, 15, 16, 6, 17, 18, 19, 20, 21, 22, 23, 24, 25, 26, 27, 28, 29, 30, 31, 32, 33] (by decide +kernel) (by decide +kernel)
set_option maxRecDepth 20000 in
theorem gX10_openText_X10_advance : GoodIn wsX10_openText (wsV RX10 22 RX10 yX10_advance wsX10_advance) := goodIn_app (goodIn_of _ (by decide +kernel)) ggX10_openText_X10_advance
set_option maxRecDepth 20000 in
theorem ggX5_readText_X10_openText : GoodIn wsX5_readText wsX10_openText := goodIn_r _ [10, 11, 12, 13, 14, 15, 9, 16, 17, 18, 19, 20, 21, 22, 23, 24, 25, 26, 27, 28, 29, 30, 31, 32, 33, 34, 35, 146, 147, 148, 149, 150, 151, 152] (by decide +kernel) (by decide +kernel)
set_option maxRecDepth 20000 in
theorem gX5_readText_X10_openText : GoodIn wsX5_readText (wsV RX5 36 RX10 yX10_openText wsX10_openText) := goodIn_app (goodIn_of _ (by decide +kernel)) ggX5_readText_X10_openText
set_option maxHeartbeats 8000000 in
set_option maxRecDepth 100000 in
/-- kindOf(-1) -/
theorem c_X10_kindOf (l : Launch) (hlt : l.stackTraces = false) (e0 : Nat) (dC : Nat → ClassId) (dI : Nat → Nat → Nat) (sz : Nat)  : Met l yX10_kindOf wsX10_kindOf ({ frames := 0, cells := 0, slots := 0, locals := 0 }) (va_Pc [.int (-1)] (pz_P e0 (dC, dI) [] [] sz)) (va_Qi (S := Unit) (fun (r : Int32) (_ : Unit) => r = 0) (fun _ _ => True) (va_A [] sz)) 0 0 (va_A [] sz) := by
  refine Met.ofW (cc := cX10_kindOf) (maxL := 1) (ret := (some .int)) (by decide) rfl ?_
  intro p e s m args below meth c s₁ B hml hv
  obtain ⟨rfl, hsz, hP, hK, hD0, hZ, hV, hT⟩ := hv
  have hx := B.exec
  have hb := B.bytes
  have hr := B.returns
  have hts := atoms_spec (ws := wsX10_kindOf) B.pre
  have hown : s.vm.findClass RX10 = some m.cls := findClass_of_methodNamed B.named
  have hlocks := B.notSynchronized
  subst hsz
  have hD := hD0.self (sz := s.heap.size)
  generalize hAe : va_A [] s.heap.size = A at hD hZ hT ⊢
  have hA : ∀ q : Nat, s.heap.size ≤ q → A q := fun q h => by rw [← hAe]; exact Or.inr h
  have hS : va_S A s.heap s.heap [] := va_S.rf
  have hP : va_P (dC, dI) vwCl [] s.heap := hP
  have hl := lv_entry ([.int (-1)]) (n := 1) (Nat.le_of_ble_eq_true rfl)
  rw [lg_entry_eq]
  generalize (lg_sl ([.int (-1)]) ++ List.replicate (1 - (lg_sl ([.int (-1)])).length) Slot.unset).toArray = ls at hl ⊢
  have hl : lv_has ls 1 [(0, .int (-1))] := hl
  refine lv_iload_n hx hb dX10_kindOf_0 rfl (lv_at hl 0 rfl) ?_
  refine lv_bipush (v := 97) hx hb dX10_kindOf_1 (by decide) ?_
  refine lv_icmp_lt (tgt := 14) hx hb dX10_kindOf_3 (by decide) (fun c_1 => ?_) (fun c_1 => ?_)
  rotate_left
  · exact absurd c_1 (by decide)
  refine lv_iload_n hx hb dX10_kindOf_14 rfl (lv_at hl 0 rfl) ?_
  refine lv_bipush (v := 48) hx hb dX10_kindOf_15 (by decide) ?_
  refine lv_icmp_lt (tgt := 28) hx hb dX10_kindOf_17 (by decide) (fun c_2 => ?_) (fun c_2 => ?_)
  rotate_left
  · exact absurd c_2 (by decide)
  refine lv_iload_n hx hb dX10_kindOf_28 rfl (lv_at hl 0 rfl) ?_
  refine lv_lookup (off := 107) (tgt := 136) hx hb dX10_kindOf_29 (by decide) (by decide) (by decide) ?_
  refine lv_iconst (v := 0) hx hb dX10_kindOf_136 (by decide) ?_
  refine W.widen (k := 0) (n := 0) (Nat.le_of_ble_eq_true rfl) (Nat.le_of_ble_eq_true rfl) ?_
  exact W.iret (v := 0) hx hb hr (fun t ht hW => ⟨⟨0, (), rfl, rfl, trivial⟩, hS.F ht⟩) hS.2.2 dX10_kindOf_137
set_option maxHeartbeats 8000000 in
set_option maxRecDepth 100000 in
/-- byteAt(0) -/
theorem c_X10_byteAt (l : Launch) (hlt : l.stackTraces = false) (e0 : Nat) (dC : Nat → ClassId) (dI : Nat → Nat → Nat) (sz : Nat) (tk tp : Nat) : Met l yX10_byteAt wsX10_byteAt ({ frames := 0, cells := 0, slots := 0, locals := 0 }) (va_Pc [.ref tk, .int 0] (pz_P e0 (dC, dI) [] [(tk, .inr (11, [.ref tp, .int 0, .int 0, .int 0, .int 0]))] sz)) (va_Qi (S := Unit) (fun (r : Int32) (_ : Unit) => r = -1) (fun u t => va_P (dC, dI) vwCl [(tk, .inr (11, [.ref tp, .int 0, .int 0, .int 0, .int 0]))] t.heap ∧ va_D (va_A [(tk, .inr (11, [.ref tp, .int 0, .int 0, .int 0, .int 0]))] sz) [(tk, .inr (11, [.ref tp, .int 0, .int 0, .int 0, .int 0]))]) (va_A [(tk, .inr (11, [.ref tp, .int 0, .int 0, .int 0, .int 0]))] sz)) 0 0 (va_A [(tk, .inr (11, [.ref tp, .int 0, .int 0, .int 0, .int 0]))] sz) := by
  refine Met.ofW (cc := cX10_byteAt) (maxL := 2) (ret := (some .int)) (by decide) rfl ?_
  intro p e s m args below meth c s₁ B hml hv
  obtain ⟨rfl, hsz, hP, hK, hD0, hZ, hV, hT⟩ := hv
  have hx := B.exec
  have hb := B.bytes
  have hr := B.returns
  have hts := atoms_spec (ws := wsX10_byteAt) B.pre
  have hown : s.vm.findClass RX10 = some m.cls := findClass_of_methodNamed B.named
  have hlocks := B.notSynchronized
  have hinX10 : ∀ w ∈ wsX100, w ∈ wsX10_byteAt := fun w h => by unfold wsX10_byteAt; simp only [List.mem_cons, List.mem_append, h, or_true, true_or]
  subst hsz
  have hD := hD0.self (sz := s.heap.size)
  generalize hAe : va_A [(tk, .inr (11, [.ref tp, .int 0, .int 0, .int 0, .int 0]))] s.heap.size = A at hD hZ hT ⊢
  have hA : ∀ q : Nat, s.heap.size ≤ q → A q := fun q h => by rw [← hAe]; exact Or.inr h
  have hS : va_S A s.heap s.heap [] := va_S.rf
  have hP : va_P (dC, dI) vwCl [(tk, .inr (11, [.ref tp, .int 0, .int 0, .int 0, .int 0]))] s.heap := hP
  have hl := lv_entry ([.ref tk, .int 0]) (n := 2) (Nat.le_of_ble_eq_true rfl)
  rw [lg_entry_eq]
  generalize (lg_sl ([.ref tk, .int 0]) ++ List.replicate (2 - (lg_sl ([.ref tk, .int 0])).length) Slot.unset).toArray = ls at hl ⊢
  have hl : lv_has ls 2 [(0, .ref tk), (1, .int 0)] := hl
  refine lv_iload_n hx hb dX10_byteAt_0 rfl (lv_at hl 1 rfl) ?_
  refine lv_if_lt (tgt := 36) hx hb dX10_byteAt_1 (by decide) (fun c_1 => ?_) (fun c_1 => ?_)
  · exact absurd c_1 (by decide)
  refine lv_iload_n hx hb dX10_byteAt_4 rfl (lv_at hl 1 rfl) ?_
  refine lv_aload_n hx hb dX10_byteAt_5 rfl (lv_at hl 0 rfl) ?_
  refine va_get (D := (dC, dI)) (ci := 11) (v := .int 0) (C := RX10) (T := TX10) (N := 5) hx hb hts hinX10 hown hK hP 0 rfl rfl 1 (by decide) (hts (.fieldLink RX10 15 "LogRiver$Tokens" "length" "I") (by decide +kernel)) (fun _ h9 => h9) rfl dX10_byteAt_6 ?_
  refine lv_icmp_ge (tgt := 36) hx hb dX10_byteAt_9 (by decide) (fun c_2 => ?_) (fun c_2 => ?_)
  rotate_left
  · exact absurd c_2 (by decide)
  refine lv_iconst (v := (-1)) hx hb dX10_byteAt_36 (by decide) ?_
  refine W.widen (k := 0) (n := 0) (Nat.le_of_ble_eq_true rfl) (Nat.le_of_ble_eq_true rfl) ?_
  have hP9 := hP.sub (ws' := [(tk, .inr (11, [.ref tp, .int 0, .int 0, .int 0, .int 0]))]) [0] rfl
  have hD9 := hD.sub (ws' := [(tk, .inr (11, [.ref tp, .int 0, .int 0, .int 0, .int 0]))]) [0] (by decide) rfl
  exact W.iret (v := (-1)) hx hb hr (fun t ht hW => ⟨⟨(-1), (), rfl, rfl, ⟨(by rw [ht]; exact hP9), hD9⟩⟩, hS.F ht⟩) hS.2.2 dX10_byteAt_37
set_option maxHeartbeats 8000000 in
set_option maxRecDepth 100000 in
/-- endOfRow(0, 5) -/
theorem c_X10_endOfRow (l : Launch) (hlt : l.stackTraces = false) (e0 : Nat) (dC : Nat → ClassId) (dI : Nat → Nat → Nat) (sz : Nat) (tk tp : Nat) : Met l yX10_endOfRow wsX10_endOfRow ({ frames := 0, cells := 0, slots := 0, locals := 0 }) (va_Pc [.ref tk, .int 0, .int 5] (pz_P e0 (dC, dI) [] [(tk, .inr (11, [.ref tp, .int 0, .int 0, .int 0, .int 0]))] sz)) (va_Qi (S := Unit) (fun (r : Int32) (_ : Unit) => r = 0) (fun u t => va_P (dC, dI) vwCl [(tk, .inr (11, [.ref tp, .int 0, .int 0, .int 0, .int 0]))] t.heap ∧ va_D (va_A [(tk, .inr (11, [.ref tp, .int 0, .int 0, .int 0, .int 0]))] sz) [(tk, .inr (11, [.ref tp, .int 0, .int 0, .int 0, .int 0]))]) (va_A [(tk, .inr (11, [.ref tp, .int 0, .int 0, .int 0, .int 0]))] sz)) 0 0 (va_A [(tk, .inr (11, [.ref tp, .int 0, .int 0, .int 0, .int 0]))] sz) := by
  refine Met.ofW (cc := cX10_endOfRow) (maxL := 4) (ret := (some .int)) (by decide) rfl ?_
  intro p e s m args below meth c s₁ B hml hv
  obtain ⟨rfl, hsz, hP, hK, hD0, hZ, hV, hT⟩ := hv
  have hx := B.exec
  have hb := B.bytes
  have hr := B.returns
  have hts := atoms_spec (ws := wsX10_endOfRow) B.pre
  have hown : s.vm.findClass RX10 = some m.cls := findClass_of_methodNamed B.named
  have hlocks := B.notSynchronized
  have hinX10 : ∀ w ∈ wsX100, w ∈ wsX10_endOfRow := fun w h => by unfold wsX10_endOfRow; simp only [List.mem_cons, List.mem_append, h, or_true, true_or]
  subst hsz
  have hD := hD0.self (sz := s.heap.size)
  generalize hAe : va_A [(tk, .inr (11, [.ref tp, .int 0, .int 0, .int 0, .int 0]))] s.heap.size = A at hD hZ hT ⊢
  have hA : ∀ q : Nat, s.heap.size ≤ q → A q := fun q h => by rw [← hAe]; exact Or.inr h
  have hS : va_S A s.heap s.heap [] := va_S.rf
  have hP : va_P (dC, dI) vwCl [(tk, .inr (11, [.ref tp, .int 0, .int 0, .int 0, .int 0]))] s.heap := hP
  have hl := lv_entry ([.ref tk, .int 0, .int 5]) (n := 4) (Nat.le_of_ble_eq_true rfl)
  rw [lg_entry_eq]
  generalize (lg_sl ([.ref tk, .int 0, .int 5]) ++ List.replicate (4 - (lg_sl ([.ref tk, .int 0, .int 5])).length) Slot.unset).toArray = ls at hl ⊢
  have hl : lv_has ls 4 [(0, .ref tk), (1, .int 0), (2, .int 5)] := hl
  refine lv_iload_n hx hb dX10_endOfRow_0 rfl (lv_at hl 1 rfl) ?_
  refine lv_istore_n (lv' := [(3, .int 0), (0, .ref tk), (1, .int 0), (2, .int 5)]) hx hb dX10_endOfRow_1 rfl hl (by decide) rfl (fun ls hl => ?_)
  refine lv_iload_n hx hb dX10_endOfRow_2 rfl (lv_at hl 0 rfl) ?_
  refine lv_aload_n hx hb dX10_endOfRow_3 rfl (lv_at hl 1 rfl) ?_
  refine va_get (D := (dC, dI)) (ci := 11) (v := .int 0) (C := RX10) (T := TX10) (N := 5) hx hb hts hinX10 hown hK hP 0 rfl rfl 1 (by decide) (hts (.fieldLink RX10 15 "LogRiver$Tokens" "length" "I") (by decide +kernel)) (fun _ h9 => h9) rfl dX10_endOfRow_4 ?_
  refine lv_icmp_ge (tgt := 28) hx hb dX10_endOfRow_7 (by decide) (fun c_1 => ?_) (fun c_1 => ?_)
  rotate_left
  · exact absurd c_1 (by decide)
  refine lv_iload_n hx hb dX10_endOfRow_28 rfl (lv_at hl 0 rfl) ?_
  refine W.widen (k := 0) (n := 0) (Nat.le_of_ble_eq_true rfl) (Nat.le_of_ble_eq_true rfl) ?_
  have hP9 := hP.sub (ws' := [(tk, .inr (11, [.ref tp, .int 0, .int 0, .int 0, .int 0]))]) [0] rfl
  have hD9 := hD.sub (ws' := [(tk, .inr (11, [.ref tp, .int 0, .int 0, .int 0, .int 0]))]) [0] (by decide) rfl
  exact W.iret (v := 0) hx hb hr (fun t ht hW => ⟨⟨0, (), rfl, rfl, ⟨(by rw [ht]; exact hP9), hD9⟩⟩, hS.F ht⟩) hS.2.2 dX10_endOfRow_29
set_option maxHeartbeats 8000000 in
set_option maxRecDepth 100000 in
/-- advance: the end -/
theorem c_X10_advance (l : Launch) (hlt : l.stackTraces = false) (e0 : Nat) (dC : Nat → ClassId) (dI : Nat → Nat → Nat) (sz : Nat) (tk tp : Nat) : Met l yX10_advance wsX10_advance ({ frames := 1, cells := 0, slots := 0, locals := 23 }) (va_Pc [.ref tk] (pz_P e0 (dC, dI) [] [(tk, .inr (11, [.ref tp, .int 0, .int 0, .int 0, .int 0]))] sz)) (va_Qv (S := Unit) (fun _ : Unit => True) (fun u t => va_P (dC, dI) vwCl [(tk, .inr (11, [.ref tp, .int 0, .int 0, .int 0, .int 0]))] t.heap ∧ va_D (va_A [(tk, .inr (11, [.ref tp, .int 0, .int 0, .int 0, .int 0]))] sz) [(tk, .inr (11, [.ref tp, .int 0, .int 0, .int 0, .int 0]))]) (va_A [(tk, .inr (11, [.ref tp, .int 0, .int 0, .int 0, .int 0]))] sz)) 0 0 (va_A [(tk, .inr (11, [.ref tp, .int 0, .int 0, .int 0, .int 0]))] sz) := by
  refine Met.ofW (cc := cX10_advance) (maxL := 1) (ret := none) (by decide) rfl ?_
  intro p e s m args below meth c s₁ B hml hv
  obtain ⟨rfl, hsz, hP, hK, hD0, hZ, hV, hT⟩ := hv
  have hx := B.exec
  have hb := B.bytes
  have hr := B.returns
  have hts := atoms_spec (ws := wsX10_advance) B.pre
  have hown : s.vm.findClass RX10 = some m.cls := findClass_of_methodNamed B.named
  have hlocks := B.notSynchronized
  have hinX10 : ∀ w ∈ wsX100, w ∈ wsX10_advance := fun w h => by unfold wsX10_advance; simp only [List.mem_cons, List.mem_append, h, or_true, true_or]
  subst hsz
  have hD := hD0.self (sz := s.heap.size)
  generalize hAe : va_A [(tk, .inr (11, [.ref tp, .int 0, .int 0, .int 0, .int 0]))] s.heap.size = A at hD hZ hT ⊢
  have hA : ∀ q : Nat, s.heap.size ≤ q → A q := fun q h => by rw [← hAe]; exact Or.inr h
  have hS : va_S A s.heap s.heap [] := va_S.rf
  have hP : va_P (dC, dI) vwCl [(tk, .inr (11, [.ref tp, .int 0, .int 0, .int 0, .int 0]))] s.heap := hP
  have hl := lv_entry ([.ref tk]) (n := 1) (Nat.le_of_ble_eq_true rfl)
  rw [lg_entry_eq]
  generalize (lg_sl ([.ref tk]) ++ List.replicate (1 - (lg_sl ([.ref tk])).length) Slot.unset).toArray = ls at hl ⊢
  have hl : lv_has ls 1 [(0, .ref tk)] := hl
  refine lv_aload_n hx hb dX10_advance_0 rfl (lv_at hl 0 rfl) ?_
  refine lv_aload_n hx hb dX10_advance_1 rfl (lv_at hl 0 rfl) ?_
  refine lv_aload_n hx hb dX10_advance_2 rfl (lv_at hl 0 rfl) ?_
  refine va_get (D := (dC, dI)) (ci := 11) (v := .int 0) (C := RX10) (T := TX10) (N := 5) hx hb hts hinX10 hown hK hP 0 rfl rfl 2 (by decide) (hts (.fieldLink RX10 19 "LogRiver$Tokens" "end" "I") (by decide +kernel)) (fun _ h9 => h9) rfl dX10_advance_3 ?_
  refine lv_iconst (v := 5) hx hb dX10_advance_6 (by decide) ?_
  have hPc := hP.sub (ws' := [(tk, .inr (11, [.ref tp, .int 0, .int 0, .int 0, .int 0]))]) [0] rfl
  have hDc := hD.sub (ws' := [(tk, .inr (11, [.ref tp, .int 0, .int 0, .int 0, .int 0]))]) [0] (by decide) rfl
  have hKc := hK.sub (tys' := []) [] rfl
  have hFc := va_free (wc := [(tk, .inr (11, [.ref tp, .int 0, .int 0, .int 0, .int 0]))]) hD hS hA [0] rfl
  refine va_calli (va_runV (As := [.int 0, .int 5]) (rest := [.ref tk]) ⟨hx, hb, hml, hown, hts⟩ (c_X10_endOfRow l hlt e0 dC dI s.heap.size tk tp) (cwV 2 hts gX10_advance_X10_endOfRow rfl rfl rfl (by decide +kernel) ⟨Nat.le_of_ble_eq_true rfl, Nat.le_of_ble_eq_true rfl⟩) (pz_preV [.int 0, .int 5] hPc hDc hKc hZ hV hT hS hFc (va_recv hKc hPc (ci := 11) (q0 := 0) rfl rfl)) rfl rfl hl.1 rfl (lv_room (Nat.le_of_ble_eq_true rfl)) dX10_advance_7 ⟨Nat.le_of_ble_eq_true rfl, Nat.le_of_ble_eq_true rfl⟩) hS (fun q _ h => hFc q h) hFc (fun r_1 u_2 t H locs ht hvm hw_3 hB_4 hz1 hk1 hS => ?_)
  obtain ⟨hP1, hD1⟩ := hB_4
  rw [ht] at hP1
  obtain ⟨hP, hD⟩ := va_join (wr := []) (w1 := [(tk, .inr (11, [.ref tp, .int 0, .int 0, .int 0, .int 0]))]) hP hD [0] [] rfl rfl (by decide) (by decide) hk1 hFc hP1 hD1
  have hP : va_P (dC, dI) vwCl [(tk, .inr (11, [.ref tp, .int 0, .int 0, .int 0, .int 0]))] H := hP
  have hD : va_D A [(tk, .inr (11, [.ref tp, .int 0, .int 0, .int 0, .int 0]))] := hD
  subst hw_3
  refine va_put (D := (dC, dI)) (ci := 11) (v := .int 0) (ty := .int) (C := RX10) (T := TX10) (N := 5) hx hb hts hinX10 tyX10 tyX10_ok nmX10 hown hK hP hD hS 0 rfl rfl 3 (by decide) (hts (.fieldLink RX10 29 "LogRiver$Tokens" "start" "I") (by decide +kernel)) (fun _ h9 => h9) rfl (by decide +kernel) rfl rfl (Nat.le_of_ble_eq_true rfl) dX10_advance_10 (fun H locs hP hD hS => ?_)
  have hP : va_P (dC, dI) vwCl [(tk, .inr (11, [.ref tp, .int 0, .int 0, .int 0, .int 0]))] H := hP
  have hD : va_D A [(tk, .inr (11, [.ref tp, .int 0, .int 0, .int 0, .int 0]))] := hD
  refine lv_aload_n hx hb dX10_advance_13 rfl (lv_at hl 0 rfl) ?_
  refine lv_aload_n hx hb dX10_advance_14 rfl (lv_at hl 0 rfl) ?_
  refine lv_aload_n hx hb dX10_advance_15 rfl (lv_at hl 0 rfl) ?_
  refine va_get (D := (dC, dI)) (ci := 11) (v := .int 0) (C := RX10) (T := TX10) (N := 5) hx hb hts hinX10 hown hK hP 0 rfl rfl 3 (by decide) (hts (.fieldLink RX10 29 "LogRiver$Tokens" "start" "I") (by decide +kernel)) (fun _ h9 => h9) rfl dX10_advance_16 ?_
  have hPc := hP.sub (ws' := [(tk, .inr (11, [.ref tp, .int 0, .int 0, .int 0, .int 0]))]) [0] rfl
  have hDc := hD.sub (ws' := [(tk, .inr (11, [.ref tp, .int 0, .int 0, .int 0, .int 0]))]) [0] (by decide) rfl
  have hKc := hK.sub (tys' := []) [] rfl
  have hFc := va_free (wc := [(tk, .inr (11, [.ref tp, .int 0, .int 0, .int 0, .int 0]))]) hD hS hA [0] rfl
  refine va_calli (va_runV (As := [.int 0]) (rest := [.ref tk]) ⟨hx, hb, hml, hown, hts⟩ (c_X10_byteAt l hlt e0 dC dI H.size tk tp) (cwV 1 hts gX10_advance_X10_byteAt rfl rfl rfl (by decide +kernel) ⟨Nat.le_of_ble_eq_true rfl, Nat.le_of_ble_eq_true rfl⟩) (pz_preV [.int 0] hPc hDc hKc hZ hV hT hS hFc (va_recv hKc hPc (ci := 11) (q0 := 0) rfl rfl)) rfl rfl hl.1 rfl (lv_room (Nat.le_of_ble_eq_true rfl)) dX10_advance_19 ⟨Nat.le_of_ble_eq_true rfl, Nat.le_of_ble_eq_true rfl⟩) hS (fun q _ h => hFc q h) hFc (fun r_5 u_6 t H locs ht hvm hw_7 hB_8 hz1 hk1 hS => ?_)
  obtain ⟨hP1, hD1⟩ := hB_8
  rw [ht] at hP1
  obtain ⟨hP, hD⟩ := va_join (wr := []) (w1 := [(tk, .inr (11, [.ref tp, .int 0, .int 0, .int 0, .int 0]))]) hP hD [0] [] rfl rfl (by decide) (by decide) hk1 hFc hP1 hD1
  have hP : va_P (dC, dI) vwCl [(tk, .inr (11, [.ref tp, .int 0, .int 0, .int 0, .int 0]))] H := hP
  have hD : va_D A [(tk, .inr (11, [.ref tp, .int 0, .int 0, .int 0, .int 0]))] := hD
  subst hw_7
  have hPc := hP.sub (ws' := []) [] rfl
  have hDc := hD.sub (ws' := []) [] (by decide) rfl
  have hKc := hK.sub (tys' := []) [] rfl
  have hFc := va_free (wc := []) hD hS hA [] rfl
  refine va_calli (va_runS (As := [.int (-1)]) (rest := [.ref tk]) ⟨hx, hb, hml, hown, hts⟩ (c_X10_kindOf l hlt e0 dC dI H.size ) (va_cwS 1 hts gX10_advance_X10_kindOf rfl rfl rfl (by decide +kernel) ⟨Nat.le_of_ble_eq_true rfl, Nat.le_of_ble_eq_true rfl⟩) (pz_preS [.int (-1)] hPc hDc hKc hZ hV hT hS hFc) rfl rfl hl.1 rfl (lv_room (Nat.le_of_ble_eq_true rfl)) dX10_advance_22 ⟨Nat.le_of_ble_eq_true rfl, Nat.le_of_ble_eq_true rfl⟩) hS (fun q _ h => hFc q h) hFc (fun r_9 u_10 t H locs ht hvm hw_11 hB_12 hz1 hk1 hS => ?_)
  obtain ⟨hP, hD⟩ := pz_rest (wr := [(tk, .inr (11, [.ref tp, .int 0, .int 0, .int 0, .int 0]))]) hP hD [] [0] rfl rfl (by decide) (by decide) hk1 hFc
  subst hw_11
  refine va_put (D := (dC, dI)) (ci := 11) (v := .int 0) (ty := .int) (C := RX10) (T := TX10) (N := 5) hx hb hts hinX10 tyX10 tyX10_ok nmX10 hown hK hP hD hS 0 rfl rfl 4 (by decide) (hts (.fieldLink RX10 39 "LogRiver$Tokens" "kind" "I") (by decide +kernel)) (fun _ h9 => h9) rfl (by decide +kernel) rfl rfl (Nat.le_of_ble_eq_true rfl) dX10_advance_25 (fun H locs hP hD hS => ?_)
  have hP : va_P (dC, dI) vwCl [(tk, .inr (11, [.ref tp, .int 0, .int 0, .int 0, .int 0]))] H := hP
  have hD : va_D A [(tk, .inr (11, [.ref tp, .int 0, .int 0, .int 0, .int 0]))] := hD
  refine lv_aload_n hx hb dX10_advance_28 rfl (lv_at hl 0 rfl) ?_
  refine va_get (D := (dC, dI)) (ci := 11) (v := .int 0) (C := RX10) (T := TX10) (N := 5) hx hb hts hinX10 hown hK hP 0 rfl rfl 4 (by decide) (hts (.fieldLink RX10 39 "LogRiver$Tokens" "kind" "I") (by decide +kernel)) (fun _ h9 => h9) rfl dX10_advance_29 ?_
  refine lv_iconst (v := 1) hx hb dX10_advance_32 (by decide) ?_
  refine lv_icmp_eq (tgt := 44) hx hb dX10_advance_33 (by decide) (fun c_13 => ?_) (fun c_13 => ?_)
  · exact absurd c_13 (by decide)
  refine lv_aload_n hx hb dX10_advance_36 rfl (lv_at hl 0 rfl) ?_
  refine va_get (D := (dC, dI)) (ci := 11) (v := .int 0) (C := RX10) (T := TX10) (N := 5) hx hb hts hinX10 hown hK hP 0 rfl rfl 4 (by decide) (hts (.fieldLink RX10 39 "LogRiver$Tokens" "kind" "I") (by decide +kernel)) (fun _ h9 => h9) rfl dX10_advance_37 ?_
  refine lv_iconst (v := 2) hx hb dX10_advance_40 (by decide) ?_
  refine lv_icmp_ne (tgt := 63) hx hb dX10_advance_41 (by decide) (fun c_14 => ?_) (fun c_14 => ?_)
  rotate_left
  · exact absurd c_14 (by decide)
  refine lv_aload_n hx hb dX10_advance_63 rfl (lv_at hl 0 rfl) ?_
  refine lv_aload_n hx hb dX10_advance_64 rfl (lv_at hl 0 rfl) ?_
  refine va_get (D := (dC, dI)) (ci := 11) (v := .int 0) (C := RX10) (T := TX10) (N := 5) hx hb hts hinX10 hown hK hP 0 rfl rfl 3 (by decide) (hts (.fieldLink RX10 29 "LogRiver$Tokens" "start" "I") (by decide +kernel)) (fun _ h9 => h9) rfl dX10_advance_65 ?_
  refine lv_iconst (v := 1) hx hb dX10_advance_68 (by decide) ?_
  refine lv_iadd hx hb dX10_advance_69 ?_
  refine lv_topi (fun x_15 ex_15 => ?_)
  obtain rfl : x_15 = 1 := ex_15.trans (by decide)
  refine lv_aload_n hx hb dX10_advance_70 rfl (lv_at hl 0 rfl) ?_
  refine va_get (D := (dC, dI)) (ci := 11) (v := .int 0) (C := RX10) (T := TX10) (N := 5) hx hb hts hinX10 hown hK hP 0 rfl rfl 1 (by decide) (hts (.fieldLink RX10 15 "LogRiver$Tokens" "length" "I") (by decide +kernel)) (fun _ h9 => h9) rfl dX10_advance_71 ?_
  refine va_mmin hx hb (hml.trans hl.1.symm) hown (hts (.methodLink RX10 42 Lib.Math.min.name) (by decide +kernel)) (hts (.static Lib.Math.min.name) (by decide +kernel)) (hts (.initialized "java/lang/Math") (by decide +kernel)) (hts (.code Lib.Math.min.name Lib.Math.min.code 2 (some .int)) (by decide +kernel)) (Nat.le_of_ble_eq_true rfl) (Nat.le_of_ble_eq_true rfl) (Nat.le_of_ble_eq_true rfl) (Nat.le_of_ble_eq_true rfl) dX10_advance_74 ?_
  refine lv_topi (fun x_16 ex_16 => ?_)
  obtain rfl : x_16 = 0 := ex_16.trans (by decide)
  refine va_put (D := (dC, dI)) (ci := 11) (v := .int 0) (ty := .int) (C := RX10) (T := TX10) (N := 5) hx hb hts hinX10 tyX10 tyX10_ok nmX10 hown hK hP hD hS 0 rfl rfl 2 (by decide) (hts (.fieldLink RX10 19 "LogRiver$Tokens" "end" "I") (by decide +kernel)) (fun _ h9 => h9) rfl (by decide +kernel) rfl rfl (Nat.le_of_ble_eq_true rfl) dX10_advance_77 (fun H locs hP hD hS => ?_)
  have hP : va_P (dC, dI) vwCl [(tk, .inr (11, [.ref tp, .int 0, .int 0, .int 0, .int 0]))] H := hP
  have hD : va_D A [(tk, .inr (11, [.ref tp, .int 0, .int 0, .int 0, .int 0]))] := hD
  refine lv_aload_n hx hb dX10_advance_80 rfl (lv_at hl 0 rfl) ?_
  refine va_get (D := (dC, dI)) (ci := 11) (v := .int 0) (C := RX10) (T := TX10) (N := 5) hx hb hts hinX10 hown hK hP 0 rfl rfl 4 (by decide) (hts (.fieldLink RX10 39 "LogRiver$Tokens" "kind" "I") (by decide +kernel)) (fun _ h9 => h9) rfl dX10_advance_81 ?_
  refine lv_iconst (v := 2) hx hb dX10_advance_84 (by decide) ?_
  refine lv_icmp_ne (tgt := 107) hx hb dX10_advance_85 (by decide) (fun c_17 => ?_) (fun c_17 => ?_)
  rotate_left
  · exact absurd c_17 (by decide)
  refine W.widen (k := 0) (n := 0) (Nat.le_of_ble_eq_true rfl) (Nat.le_of_ble_eq_true rfl) ?_
  have hP9 := hP.sub (ws' := [(tk, .inr (11, [.ref tp, .int 0, .int 0, .int 0, .int 0]))]) [0] rfl
  have hD9 := hD.sub (ws' := [(tk, .inr (11, [.ref tp, .int 0, .int 0, .int 0, .int 0]))]) [0] (by decide) rfl
  exact W.vret hx hb hr (fun t ht hW => ⟨⟨(), rfl, trivial, ⟨(by rw [ht]; exact hP9), hD9⟩⟩, hS.F ht⟩) hS.2.2 dX10_advance_107
set_option maxHeartbeats 8000000 in
set_option maxRecDepth 100000 in
/-- openText(0) -/
theorem c_X10_openText (l : Launch) (hlt : l.stackTraces = false) (e0 : Nat) (dC : Nat → ClassId) (dI : Nat → Nat → Nat) (sz : Nat) (tk tp : Nat) : Met l yX10_openText wsX10_openText ({ frames := 2, cells := 0, slots := 0, locals := 43 }) (va_Pc [.ref tk, .int 0] (pz_P e0 (dC, dI) [] [(tk, .inr (11, [.ref tp, .int 0, .int 0, .int 0, .int 0]))] sz)) (va_Qv (S := Unit) (fun _ : Unit => True) (fun u t => va_P (dC, dI) vwCl [(tk, .inr (11, [.ref tp, .int 0, .int 0, .int 0, .int 0]))] t.heap ∧ va_D (va_A [(tk, .inr (11, [.ref tp, .int 0, .int 0, .int 0, .int 0]))] sz) [(tk, .inr (11, [.ref tp, .int 0, .int 0, .int 0, .int 0]))]) (va_A [(tk, .inr (11, [.ref tp, .int 0, .int 0, .int 0, .int 0]))] sz)) 0 0 (va_A [(tk, .inr (11, [.ref tp, .int 0, .int 0, .int 0, .int 0]))] sz) := by
  refine Met.ofW (cc := cX10_openText) (maxL := 2) (ret := none) (by decide) rfl ?_
  intro p e s m args below meth c s₁ B hml hv
  obtain ⟨rfl, hsz, hP, hK, hD0, hZ, hV, hT⟩ := hv
  have hx := B.exec
  have hb := B.bytes
  have hr := B.returns
  have hts := atoms_spec (ws := wsX10_openText) B.pre
  have hown : s.vm.findClass RX10 = some m.cls := findClass_of_methodNamed B.named
  have hlocks := B.notSynchronized
  have hinX10 : ∀ w ∈ wsX100, w ∈ wsX10_openText := fun w h => by unfold wsX10_openText; simp only [List.mem_cons, List.mem_append, h, or_true, true_or]
  subst hsz
  have hD := hD0.self (sz := s.heap.size)
  generalize hAe : va_A [(tk, .inr (11, [.ref tp, .int 0, .int 0, .int 0, .int 0]))] s.heap.size = A at hD hZ hT ⊢
  have hA : ∀ q : Nat, s.heap.size ≤ q → A q := fun q h => by rw [← hAe]; exact Or.inr h
  have hS : va_S A s.heap s.heap [] := va_S.rf
  have hP : va_P (dC, dI) vwCl [(tk, .inr (11, [.ref tp, .int 0, .int 0, .int 0, .int 0]))] s.heap := hP
  have hl := lv_entry ([.ref tk, .int 0]) (n := 2) (Nat.le_of_ble_eq_true rfl)
  rw [lg_entry_eq]
  generalize (lg_sl ([.ref tk, .int 0]) ++ List.replicate (2 - (lg_sl ([.ref tk, .int 0])).length) Slot.unset).toArray = ls at hl ⊢
  have hl : lv_has ls 2 [(0, .ref tk), (1, .int 0)] := hl
  refine lv_aload_n hx hb dX10_openText_0 rfl (lv_at hl 0 rfl) ?_
  refine lv_iload_n hx hb dX10_openText_1 rfl (lv_at hl 1 rfl) ?_
  refine va_put (D := (dC, dI)) (ci := 11) (v := .int 0) (ty := .int) (C := RX10) (T := TX10) (N := 5) hx hb hts hinX10 tyX10 tyX10_ok nmX10 hown hK hP hD hS 0 rfl rfl 1 (by decide) (hts (.fieldLink RX10 15 "LogRiver$Tokens" "length" "I") (by decide +kernel)) (fun _ h9 => h9) rfl (by decide +kernel) rfl rfl (Nat.le_of_ble_eq_true rfl) dX10_openText_2 (fun H locs hP hD hS => ?_)
  have hP : va_P (dC, dI) vwCl [(tk, .inr (11, [.ref tp, .int 0, .int 0, .int 0, .int 0]))] H := hP
  have hD : va_D A [(tk, .inr (11, [.ref tp, .int 0, .int 0, .int 0, .int 0]))] := hD
  refine lv_aload_n hx hb dX10_openText_5 rfl (lv_at hl 0 rfl) ?_
  refine lv_iconst (v := 0) hx hb dX10_openText_6 (by decide) ?_
  refine va_put (D := (dC, dI)) (ci := 11) (v := .int 0) (ty := .int) (C := RX10) (T := TX10) (N := 5) hx hb hts hinX10 tyX10 tyX10_ok nmX10 hown hK hP hD hS 0 rfl rfl 2 (by decide) (hts (.fieldLink RX10 19 "LogRiver$Tokens" "end" "I") (by decide +kernel)) (fun _ h9 => h9) rfl (by decide +kernel) rfl rfl (Nat.le_of_ble_eq_true rfl) dX10_openText_7 (fun H locs hP hD hS => ?_)
  have hP : va_P (dC, dI) vwCl [(tk, .inr (11, [.ref tp, .int 0, .int 0, .int 0, .int 0]))] H := hP
  have hD : va_D A [(tk, .inr (11, [.ref tp, .int 0, .int 0, .int 0, .int 0]))] := hD
  refine lv_aload_n hx hb dX10_openText_10 rfl (lv_at hl 0 rfl) ?_
  have hPc := hP.sub (ws' := [(tk, .inr (11, [.ref tp, .int 0, .int 0, .int 0, .int 0]))]) [0] rfl
  have hDc := hD.sub (ws' := [(tk, .inr (11, [.ref tp, .int 0, .int 0, .int 0, .int 0]))]) [0] (by decide) rfl
  have hKc := hK.sub (tys' := []) [] rfl
  have hFc := va_free (wc := [(tk, .inr (11, [.ref tp, .int 0, .int 0, .int 0, .int 0]))]) hD hS hA [0] rfl
  refine va_callv (va_runV (As := []) (rest := []) ⟨hx, hb, hml, hown, hts⟩ (c_X10_advance l hlt e0 dC dI H.size tk tp) (cwV 0 hts gX10_openText_X10_advance rfl rfl rfl (by decide +kernel) ⟨Nat.le_of_ble_eq_true rfl, Nat.le_of_ble_eq_true rfl⟩) (pz_preV [] hPc hDc hKc hZ hV hT hS hFc (va_recv hKc hPc (ci := 11) (q0 := 0) rfl rfl)) rfl rfl hl.1 rfl (lv_room (Nat.le_of_ble_eq_true rfl)) dX10_openText_11 ⟨Nat.le_of_ble_eq_true rfl, Nat.le_of_ble_eq_true rfl⟩) hS (fun q _ h => hFc q h) hFc (fun u_2 t H locs ht hvm hw_3 hB_4 hz1 hk1 hS => ?_)
  obtain ⟨hP1, hD1⟩ := hB_4
  rw [ht] at hP1
  obtain ⟨hP, hD⟩ := va_join (wr := []) (w1 := [(tk, .inr (11, [.ref tp, .int 0, .int 0, .int 0, .int 0]))]) hP hD [0] [] rfl rfl (by decide) (by decide) hk1 hFc hP1 hD1
  have hP : va_P (dC, dI) vwCl [(tk, .inr (11, [.ref tp, .int 0, .int 0, .int 0, .int 0]))] H := hP
  have hD : va_D A [(tk, .inr (11, [.ref tp, .int 0, .int 0, .int 0, .int 0]))] := hD
  refine W.widen (k := 0) (n := 0) (Nat.le_of_ble_eq_true rfl) (Nat.le_of_ble_eq_true rfl) ?_
  have hP9 := hP.sub (ws' := [(tk, .inr (11, [.ref tp, .int 0, .int 0, .int 0, .int 0]))]) [0] rfl
  have hD9 := hD.sub (ws' := [(tk, .inr (11, [.ref tp, .int 0, .int 0, .int 0, .int 0]))]) [0] (by decide) rfl
  exact W.vret hx hb hr (fun t ht hW => ⟨⟨(), rfl, trivial, ⟨(by rw [ht]; exact hP9), hD9⟩⟩, hS.F ht⟩) hS.2.2 dX10_openText_14
set_option maxHeartbeats 8000000 in
set_option maxRecDepth 100000 in
/-- readText(0) -/
theorem c_X5_readText (l : Launch) (hlt : l.stackTraces = false) (e0 : Nat) (dC : Nat → ClassId) (dI : Nat → Nat → Nat) (sz : Nat) (rd cd tk tp : Nat) : Met l yX5_readText wsX5_readText ({ frames := 3, cells := 0, slots := 0, locals := 64 }) (va_Pc [.ref rd, .int 0] (pz_P e0 (dC, dI) [] [(rd, .inr (6, [.ref tk, .ref cd, .int 0, .int 0, .int 0])), (tk, .inr (11, [.ref tp, .int 0, .int 0, .int 0, .int 0]))] sz)) (va_Qv (S := Unit) (fun _ : Unit => True) (fun u t => va_P (dC, dI) vwCl [(rd, .inr (6, [.ref tk, .ref cd, .int 0, .int 0, .int (-1)])), (tk, .inr (11, [.ref tp, .int 0, .int 0, .int 0, .int 0]))] t.heap ∧ va_D (va_A [(rd, .inr (6, [.ref tk, .ref cd, .int 0, .int 0, .int 0])), (tk, .inr (11, [.ref tp, .int 0, .int 0, .int 0, .int 0]))] sz) [(rd, .inr (6, [.ref tk, .ref cd, .int 0, .int 0, .int (-1)])), (tk, .inr (11, [.ref tp, .int 0, .int 0, .int 0, .int 0]))]) (va_A [(rd, .inr (6, [.ref tk, .ref cd, .int 0, .int 0, .int 0])), (tk, .inr (11, [.ref tp, .int 0, .int 0, .int 0, .int 0]))] sz)) 0 0 (va_A [(rd, .inr (6, [.ref tk, .ref cd, .int 0, .int 0, .int 0])), (tk, .inr (11, [.ref tp, .int 0, .int 0, .int 0, .int 0]))] sz) := by
  refine Met.ofW (cc := cX5_readText) (maxL := 3) (ret := none) (by decide) rfl ?_
  intro p e s m args below meth c s₁ B hml hv
  obtain ⟨rfl, hsz, hP, hK, hD0, hZ, hV, hT⟩ := hv
  have hx := B.exec
  have hb := B.bytes
  have hr := B.returns
  have hts := atoms_spec (ws := wsX5_readText) B.pre
  have hown : s.vm.findClass RX5 = some m.cls := findClass_of_methodNamed B.named
  have hlocks := B.notSynchronized
  have hinX10 : ∀ w ∈ wsX100, w ∈ wsX5_readText := fun w h => by unfold wsX5_readText; simp only [List.mem_cons, List.mem_append, h, or_true, true_or]
  have hinX5 : ∀ w ∈ wsX50, w ∈ wsX5_readText := fun w h => by unfold wsX5_readText; simp only [List.mem_cons, List.mem_append, h, or_true, true_or]
  subst hsz
  have hD := hD0.self (sz := s.heap.size)
  generalize hAe : va_A [(rd, .inr (6, [.ref tk, .ref cd, .int 0, .int 0, .int 0])), (tk, .inr (11, [.ref tp, .int 0, .int 0, .int 0, .int 0]))] s.heap.size = A at hD hZ hT ⊢
  have hA : ∀ q : Nat, s.heap.size ≤ q → A q := fun q h => by rw [← hAe]; exact Or.inr h
  have hS : va_S A s.heap s.heap [] := va_S.rf
  have hP : va_P (dC, dI) vwCl [(rd, .inr (6, [.ref tk, .ref cd, .int 0, .int 0, .int 0])), (tk, .inr (11, [.ref tp, .int 0, .int 0, .int 0, .int 0]))] s.heap := hP
  have hl := lv_entry ([.ref rd, .int 0]) (n := 3) (Nat.le_of_ble_eq_true rfl)
  rw [lg_entry_eq]
  generalize (lg_sl ([.ref rd, .int 0]) ++ List.replicate (3 - (lg_sl ([.ref rd, .int 0])).length) Slot.unset).toArray = ls at hl ⊢
  have hl : lv_has ls 3 [(0, .ref rd), (1, .int 0)] := hl
  refine lv_aload_n hx hb dX5_readText_0 rfl (lv_at hl 0 rfl) ?_
  refine lv_iconst (v := 0) hx hb dX5_readText_1 (by decide) ?_
  refine va_put (D := (dC, dI)) (ci := 6) (v := .int 0) (ty := .int) (C := RX5) (T := TX5) (N := 5) hx hb hts hinX5 tyX5 tyX5_ok nmX5 hown hK hP hD hS 0 rfl rfl 2 (by decide) (hts (.fieldLink RX5 26 "LogRiver$LawReader" "codeLength" "I") (by decide +kernel)) (fun _ h9 => h9) rfl (by decide +kernel) rfl rfl (Nat.le_of_ble_eq_true rfl) dX5_readText_2 (fun H locs hP hD hS => ?_)
  have hP : va_P (dC, dI) vwCl [(rd, .inr (6, [.ref tk, .ref cd, .int 0, .int 0, .int 0])), (tk, .inr (11, [.ref tp, .int 0, .int 0, .int 0, .int 0]))] H := hP
  have hD : va_D A [(rd, .inr (6, [.ref tk, .ref cd, .int 0, .int 0, .int 0])), (tk, .inr (11, [.ref tp, .int 0, .int 0, .int 0, .int 0]))] := hD
  refine lv_aload_n hx hb dX5_readText_5 rfl (lv_at hl 0 rfl) ?_
  refine lv_iconst (v := 0) hx hb dX5_readText_6 (by decide) ?_
  refine va_put (D := (dC, dI)) (ci := 6) (v := .int 0) (ty := .int) (C := RX5) (T := TX5) (N := 5) hx hb hts hinX5 tyX5 tyX5_ok nmX5 hown hK hP hD hS 0 rfl rfl 3 (by decide) (hts (.fieldLink RX5 30 "LogRiver$LawReader" "fault" "I") (by decide +kernel)) (fun _ h9 => h9) rfl (by decide +kernel) rfl rfl (Nat.le_of_ble_eq_true rfl) dX5_readText_7 (fun H locs hP hD hS => ?_)
  have hP : va_P (dC, dI) vwCl [(rd, .inr (6, [.ref tk, .ref cd, .int 0, .int 0, .int 0])), (tk, .inr (11, [.ref tp, .int 0, .int 0, .int 0, .int 0]))] H := hP
  have hD : va_D A [(rd, .inr (6, [.ref tk, .ref cd, .int 0, .int 0, .int 0])), (tk, .inr (11, [.ref tp, .int 0, .int 0, .int 0, .int 0]))] := hD
  refine lv_aload_n hx hb dX5_readText_10 rfl (lv_at hl 0 rfl) ?_
  refine lv_iconst (v := (-1)) hx hb dX5_readText_11 (by decide) ?_
  refine va_put (D := (dC, dI)) (ci := 6) (v := .int (-1)) (ty := .int) (C := RX5) (T := TX5) (N := 5) hx hb hts hinX5 tyX5 tyX5_ok nmX5 hown hK hP hD hS 0 rfl rfl 4 (by decide) (hts (.fieldLink RX5 33 "LogRiver$LawReader" "faultPlace" "I") (by decide +kernel)) (fun _ h9 => h9) rfl (by decide +kernel) rfl rfl (Nat.le_of_ble_eq_true rfl) dX5_readText_12 (fun H locs hP hD hS => ?_)
  have hP : va_P (dC, dI) vwCl [(rd, .inr (6, [.ref tk, .ref cd, .int 0, .int 0, .int (-1)])), (tk, .inr (11, [.ref tp, .int 0, .int 0, .int 0, .int 0]))] H := hP
  have hD : va_D A [(rd, .inr (6, [.ref tk, .ref cd, .int 0, .int 0, .int (-1)])), (tk, .inr (11, [.ref tp, .int 0, .int 0, .int 0, .int 0]))] := hD
  refine lv_aload_n hx hb dX5_readText_15 rfl (lv_at hl 0 rfl) ?_
  refine va_get (D := (dC, dI)) (ci := 6) (v := .ref tk) (C := RX5) (T := TX5) (N := 5) hx hb hts hinX5 hown hK hP 0 rfl rfl 0 (by decide) (hts (.fieldLink RX5 14 "LogRiver$LawReader" "tokens" "LLogRiver$Tokens;") (by decide +kernel)) (fun _ h9 => h9) rfl dX5_readText_16 ?_
  refine lv_iload_n hx hb dX5_readText_19 rfl (lv_at hl 1 rfl) ?_
  have hPc := hP.sub (ws' := [(tk, .inr (11, [.ref tp, .int 0, .int 0, .int 0, .int 0]))]) [1] rfl
  have hDc := hD.sub (ws' := [(tk, .inr (11, [.ref tp, .int 0, .int 0, .int 0, .int 0]))]) [1] (by decide) rfl
  have hKc := hK.sub (tys' := []) [] rfl
  have hFc := va_free (wc := [(tk, .inr (11, [.ref tp, .int 0, .int 0, .int 0, .int 0]))]) hD hS hA [1] rfl
  refine va_callv (va_runV (As := [.int 0]) (rest := []) ⟨hx, hb, hml, hown, hts⟩ (c_X10_openText l hlt e0 dC dI H.size tk tp) (cwV 1 hts gX5_readText_X10_openText rfl rfl rfl (by decide +kernel) ⟨Nat.le_of_ble_eq_true rfl, Nat.le_of_ble_eq_true rfl⟩) (pz_preV [.int 0] hPc hDc hKc hZ hV hT hS hFc (va_recv hKc hPc (ci := 11) (q0 := 0) rfl rfl)) rfl rfl hl.1 rfl (lv_room (Nat.le_of_ble_eq_true rfl)) dX5_readText_20 ⟨Nat.le_of_ble_eq_true rfl, Nat.le_of_ble_eq_true rfl⟩) hS (fun q _ h => hFc q h) hFc (fun u_2 t H locs ht hvm hw_3 hB_4 hz1 hk1 hS => ?_)
  obtain ⟨hP1, hD1⟩ := hB_4
  rw [ht] at hP1
  obtain ⟨hP, hD⟩ := va_join (wr := [(rd, .inr (6, [.ref tk, .ref cd, .int 0, .int 0, .int (-1)]))]) (w1 := [(tk, .inr (11, [.ref tp, .int 0, .int 0, .int 0, .int 0]))]) hP hD [1] [0] rfl rfl (by decide) (by decide) hk1 hFc hP1 hD1
  have hP : va_P (dC, dI) vwCl [(rd, .inr (6, [.ref tk, .ref cd, .int 0, .int 0, .int (-1)])), (tk, .inr (11, [.ref tp, .int 0, .int 0, .int 0, .int 0]))] H := hP
  have hD : va_D A [(rd, .inr (6, [.ref tk, .ref cd, .int 0, .int 0, .int (-1)])), (tk, .inr (11, [.ref tp, .int 0, .int 0, .int 0, .int 0]))] := hD
  refine lv_iconst (v := 0) hx hb dX5_readText_23 (by decide) ?_
  refine lv_istore_n (lv' := [(2, .int 0), (0, .ref rd), (1, .int 0)]) hx hb dX5_readText_24 rfl hl (by decide) rfl (fun ls hl => ?_)
  refine lv_iload_n hx hb dX5_readText_25 rfl (lv_at hl 0 rfl) ?_
  refine lv_bipush (v := 12) hx hb dX5_readText_26 (by decide) ?_
  refine lv_icmp_gt (tgt := 59) hx hb dX5_readText_28 (by decide) (fun c_5 => ?_) (fun c_5 => ?_)
  · exact absurd c_5 (by decide)
  refine lv_aload_n hx hb dX5_readText_31 rfl (lv_at hl 1 rfl) ?_
  refine va_get (D := (dC, dI)) (ci := 6) (v := .ref tk) (C := RX5) (T := TX5) (N := 5) hx hb hts hinX5 hown hK hP 0 rfl rfl 0 (by decide) (hts (.fieldLink RX5 14 "LogRiver$LawReader" "tokens" "LLogRiver$Tokens;") (by decide +kernel)) (fun _ h9 => h9) rfl dX5_readText_32 ?_
  refine va_get (D := (dC, dI)) (ci := 11) (v := .int 0) (C := RX10) (T := TX10) (N := 5) hx hb hts hinX10 hown hK hP 1 rfl rfl 4 (by decide) (hts (.fieldLink RX5 40 "LogRiver$Tokens" "kind" "I") (by decide +kernel)) (fun _ h9 => h9) rfl dX5_readText_35 ?_
  refine lv_if_eq (tgt := 59) hx hb dX5_readText_38 (by decide) (fun c_6 => ?_) (fun c_6 => ?_)
  rotate_left
  · exact absurd c_6 (by decide)
  refine W.widen (k := 0) (n := 0) (Nat.le_of_ble_eq_true rfl) (Nat.le_of_ble_eq_true rfl) ?_
  have hP9 := hP.sub (ws' := [(rd, .inr (6, [.ref tk, .ref cd, .int 0, .int 0, .int (-1)])), (tk, .inr (11, [.ref tp, .int 0, .int 0, .int 0, .int 0]))]) [0, 1] rfl
  have hD9 := hD.sub (ws' := [(rd, .inr (6, [.ref tk, .ref cd, .int 0, .int 0, .int (-1)])), (tk, .inr (11, [.ref tp, .int 0, .int 0, .int 0, .int 0]))]) [0, 1] (by decide) rfl
  exact W.vret hx hb hr (fun t ht hW => ⟨⟨(), rfl, trivial, ⟨(by rw [ht]; exact hP9), hD9⟩⟩, hS.F ht⟩) hS.2.2 dX5_readText_59

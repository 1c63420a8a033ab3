theorem dX10_init_0 : decode cX10_init 0 = .ok (.aload_n 0, 1) := by decide +kernel
theorem dX10_init_1 : decode cX10_init 1 = .ok (.invokespecial 3, 3) := by decide +kernel
theorem dX10_init_4 : decode cX10_init 4 = .ok (.aload_n 0, 1) := by decide +kernel
theorem dX10_init_5 : decode cX10_init 5 = .ok (.aload_n 1, 1) := by decide +kernel
theorem dX10_init_6 : decode cX10_init 6 = .ok (.putfield 9, 3) := by decide +kernel
theorem dX10_init_9 : decode cX10_init 9 = .ok (.return_, 1) := by decide +kernel
theorem dX3_init_0 : decode cX3_init 0 = .ok (.aload_n 0, 1) := by decide +kernel
theorem dX3_init_1 : decode cX3_init 1 = .ok (.invokespecial 5, 3) := by decide +kernel
theorem dX3_init_4 : decode cX3_init 4 = .ok (.aload_n 0, 1) := by decide +kernel
theorem dX3_init_5 : decode cX3_init 5 = .ok (.bipush 33, 2) := by decide +kernel
theorem dX3_init_7 : decode cX3_init 7 = .ok (.newarray .int, 2) := by decide +kernel
theorem dX3_init_9 : decode cX3_init 9 = .ok (.putfield 13, 3) := by decide +kernel
theorem dX3_init_12 : decode cX3_init 12 = .ok (.aload_n 0, 1) := by decide +kernel
theorem dX3_init_13 : decode cX3_init 13 = .ok (.bipush 7, 2) := by decide +kernel
theorem dX3_init_15 : decode cX3_init 15 = .ok (.newarray .int, 2) := by decide +kernel
theorem dX3_init_17 : decode cX3_init 17 = .ok (.putfield 19, 3) := by decide +kernel
theorem dX3_init_20 : decode cX3_init 20 = .ok (.return_, 1) := by decide +kernel
theorem dX5_init_0 : decode cX5_init 0 = .ok (.aload_n 0, 1) := by decide +kernel
theorem dX5_init_1 : decode cX5_init 1 = .ok (.invokespecial 3, 3) := by decide +kernel
theorem dX5_init_4 : decode cX5_init 4 = .ok (.aload_n 0, 1) := by decide +kernel
theorem dX5_init_5 : decode cX5_init 5 = .ok (.new 9, 3) := by decide +kernel
theorem dX5_init_8 : decode cX5_init 8 = .ok (.dup, 1) := by decide +kernel
theorem dX5_init_9 : decode cX5_init 9 = .ok (.aload_n 1, 1) := by decide +kernel
theorem dX5_init_10 : decode cX5_init 10 = .ok (.invokespecial 11, 3) := by decide +kernel
theorem dX5_init_13 : decode cX5_init 13 = .ok (.putfield 14, 3) := by decide +kernel
theorem dX5_init_16 : decode cX5_init 16 = .ok (.aload_n 0, 1) := by decide +kernel
theorem dX5_init_17 : decode cX5_init 17 = .ok (.sipush 500, 3) := by decide +kernel
theorem dX5_init_20 : decode cX5_init 20 = .ok (.newarray .int, 2) := by decide +kernel
theorem dX5_init_22 : decode cX5_init 22 = .ok (.putfield 22, 3) := by decide +kernel
theorem dX5_init_25 : decode cX5_init 25 = .ok (.return_, 1) := by decide +kernel
theorem dX9_init_0 : decode cX9_init 0 = .ok (.aload_n 0, 1) := by decide +kernel
theorem dX9_init_1 : decode cX9_init 1 = .ok (.invokespecial 1, 3) := by decide +kernel
theorem dX9_init_4 : decode cX9_init 4 = .ok (.aload_n 0, 1) := by decide +kernel
theorem dX9_init_5 : decode cX9_init 5 = .ok (.sipush 500, 3) := by decide +kernel
theorem dX9_init_8 : decode cX9_init 8 = .ok (.newarray .int, 2) := by decide +kernel
theorem dX9_init_10 : decode cX9_init 10 = .ok (.putfield 9, 3) := by decide +kernel
theorem dX9_init_13 : decode cX9_init 13 = .ok (.return_, 1) := by decide +kernel
set_option maxRecDepth 20000 in
theorem ggX5_init_X10_init : GoodIn wsX5_init wsX10_init := goodIn_r _ [12, 13, 2, 3, 14, 15, 16, 17, 18, 19] (by decide +kernel) (by decide +kernel)
set_option maxRecDepth 20000 in
theorem gX5_init_X10_init : GoodIn wsX5_init (wsX10_init) := ggX5_init_X10_init
theorem pz_ai (N : Nat) : ∀ cA : ClassId, vp_cell cA (N, .inl (fun _ => 0)) = arrV cA N (fun _ => defaultValue .int) := fun _ => rfl
theorem pz_az (N : Nat) : ∀ cA : ClassId, vp_cell cA (N, .inl (fun _ => 0)) = arrV cA N (fun _ => defaultValue .boolean) := fun _ => rfl
theorem pz_al (N : Nat) : ∀ cA : ClassId, vp_cell cA (N, .inr (.inl (fun _ => 0))) = arrV cA N (fun _ => defaultValue .long) := fun _ => rfl
set_option maxHeartbeats 8000000 in
set_option maxRecDepth 100000 in
/-- Tokens() -/
theorem c_X10_init (l : Launch) (hlt : l.stackTraces = false) (e0 : Nat) (dC : Nat → ClassId) (dI : Nat → Nat → Nat) (sz : Nat) (q tp : Nat) : Met l yX10_init wsX10_init ({ frames := 1, cells := 0, slots := 0, locals := 12 }) (va_Pc [.ref q, .ref tp] (pz_P e0 (dC, dI) [] [(q, .inr (11, [.null, .int 0, .int 0, .int 0, .int 0]))] sz)) (va_Qv (S := Unit) (fun _ : Unit => True) (fun u t => va_P (dC, dI) vwCl [(q, .inr (11, [.ref tp, .int 0, .int 0, .int 0, .int 0]))] t.heap ∧ va_D (va_A [(q, .inr (11, [.null, .int 0, .int 0, .int 0, .int 0]))] sz) [(q, .inr (11, [.ref tp, .int 0, .int 0, .int 0, .int 0]))]) (va_A [(q, .inr (11, [.null, .int 0, .int 0, .int 0, .int 0]))] sz)) 0 0 (va_A [(q, .inr (11, [.null, .int 0, .int 0, .int 0, .int 0]))] sz) := by
  refine Met.ofW (cc := cX10_init) (maxL := 2) (ret := none) (by decide) rfl ?_
  intro p e s m args below meth c s₁ B hml hv
  obtain ⟨rfl, hsz, hP, hK, hD0, hZ, hV, hT⟩ := hv
  have hx := B.exec
  have hb := B.bytes
  have hr := B.returns
  have hts := atoms_spec (ws := wsX10_init) B.pre
  have hown : s.vm.findClass RX10 = some m.cls := findClass_of_methodNamed B.named
  have hlocks := B.notSynchronized
  have hin : meth.name = "<init>" := (name_of_methodNamed B.named B.method).1
  have hinX10 : ∀ w ∈ wsX100, w ∈ wsX10_init := fun w h => by unfold wsX10_init; simp only [List.mem_cons, List.mem_append, h, or_true, true_or]
  subst hsz
  have hD := hD0.self (sz := s.heap.size)
  generalize hAe : va_A [(q, .inr (11, [.null, .int 0, .int 0, .int 0, .int 0]))] s.heap.size = A at hD hZ hT ⊢
  have hA : ∀ q : Nat, s.heap.size ≤ q → A q := fun q h => by rw [← hAe]; exact Or.inr h
  have hS : va_S A s.heap s.heap [] := va_S.rf
  have hP : va_P (dC, dI) vwCl [(q, .inr (11, [.null, .int 0, .int 0, .int 0, .int 0]))] s.heap := hP
  have hl := lv_entry ([.ref q, .ref tp]) (n := 2) (Nat.le_of_ble_eq_true rfl)
  rw [lg_entry_eq]
  generalize (lg_sl ([.ref q, .ref tp]) ++ List.replicate (2 - (lg_sl ([.ref q, .ref tp])).length) Slot.unset).toArray = ls at hl ⊢
  have hl : lv_has ls 2 [(0, .ref q), (1, .ref tp)] := hl
  refine lv_aload_n hx hb dX10_init_0 rfl (lv_at hl 0 rfl) ?_
  refine W.objInit hx hb hown (hts (.methodLink RX10 3 objectInit) (by decide +kernel)) (hts (.instanceMethod objectInit) (by decide +kernel)) (hts (.code objectInit ⟨#[0xb1]⟩ 1 none) (by decide +kernel)) rfl (by rw [hml]; exact hl.1) rfl dX10_init_1 (Nat.le_of_ble_eq_true rfl) (Nat.le_of_ble_eq_true rfl) ?_
  refine W.eq (g2 := F0 m 4 ls []) rfl ?_
  refine lv_aload_n hx hb dX10_init_4 rfl (lv_at hl 0 rfl) ?_
  refine lv_aload_n hx hb dX10_init_5 rfl (lv_at hl 1 rfl) ?_
  refine va_putF (D := (dC, dI)) (ci := 11) (v := .ref tp) (ty := .object "LogRiver$Tape") (C := RX10) (T := TX10) (N := 5) hx hb hts hinX10 tyX10 tyX10_ok nmX10 hown hK hP hD hS 0 rfl rfl 0 (by decide) (hts (.fieldLink RX10 9 "LogRiver$Tokens" "tape" "LLogRiver$Tape;") (by decide +kernel)) (fun _ h9 => h9) rfl hin rfl (by decide +kernel) rfl rfl (Nat.le_of_ble_eq_true rfl) dX10_init_6 (fun H locs hP hD hS => ?_)
  have hP : va_P (dC, dI) vwCl [(q, .inr (11, [.ref tp, .int 0, .int 0, .int 0, .int 0]))] H := hP
  have hD : va_D A [(q, .inr (11, [.ref tp, .int 0, .int 0, .int 0, .int 0]))] := hD
  refine W.widen (k := 0) (n := 0) (Nat.le_of_ble_eq_true rfl) (Nat.le_of_ble_eq_true rfl) ?_
  have hP9 := hP.sub (ws' := [(q, .inr (11, [.ref tp, .int 0, .int 0, .int 0, .int 0]))]) [0] rfl
  have hD9 := hD.sub (ws' := [(q, .inr (11, [.ref tp, .int 0, .int 0, .int 0, .int 0]))]) [0] (by decide) rfl
  exact W.vret hx hb hr (fun t ht hW => ⟨⟨(), rfl, trivial, ⟨(by rw [ht]; exact hP9), hD9⟩⟩, hS.F ht⟩) hS.2.2 dX10_init_9
set_option maxHeartbeats 8000000 in
set_option maxRecDepth 100000 in
/-- Tape() -/
theorem c_X9_init (l : Launch) (hlt : l.stackTraces = false) (e0 : Nat) (dC : Nat → ClassId) (dI : Nat → Nat → Nat) (sz : Nat) (q : Nat) : Met l yX9_init wsX9_init ({ frames := 1, cells := 1, slots := 500, locals := 12 }) (va_Pc [.ref q] (pz_P e0 (dC, dI) [] [(q, .inr (10, [.null, .int 0]))] sz)) (va_Qv (S := Nat × ClassId) (fun _ : Nat × ClassId => True) (fun u t => va_P (dC, dI) vwCl [(q, .inr (10, [.ref u.1, .int 0])), (u.1, .inl (u.2, 500, .inl (fun _ => 0)))] t.heap ∧ va_D (va_A [(q, .inr (10, [.null, .int 0]))] sz) [(q, .inr (10, [.ref u.1, .int 0])), (u.1, .inl (u.2, 500, .inl (fun _ => 0)))] ∧ va_K (dC, dI) vwCl [(u.2, .int)] t) (va_A [(q, .inr (10, [.null, .int 0]))] sz)) 1 500 (va_A [(q, .inr (10, [.null, .int 0]))] sz) := by
  refine Met.ofW (cc := cX9_init) (maxL := 1) (ret := none) (by decide) rfl ?_
  intro p e s m args below meth c s₁ B hml hv
  obtain ⟨rfl, hsz, hP, hK, hD0, hZ, hV, hT⟩ := hv
  have hx := B.exec
  have hb := B.bytes
  have hr := B.returns
  have hts := atoms_spec (ws := wsX9_init) B.pre
  have hown : s.vm.findClass RX9 = some m.cls := findClass_of_methodNamed B.named
  have hlocks := B.notSynchronized
  have hin : meth.name = "<init>" := (name_of_methodNamed B.named B.method).1
  have hinX9 : ∀ w ∈ wsX90, w ∈ wsX9_init := fun w h => by unfold wsX9_init; simp only [List.mem_cons, List.mem_append, h, or_true, true_or]
  subst hsz
  have hD := hD0.self (sz := s.heap.size)
  generalize hAe : va_A [(q, .inr (10, [.null, .int 0]))] s.heap.size = A at hD hZ hT ⊢
  have hA : ∀ q : Nat, s.heap.size ≤ q → A q := fun q h => by rw [← hAe]; exact Or.inr h
  have hS : va_S A s.heap s.heap [] := va_S.rf
  have hP : va_P (dC, dI) vwCl [(q, .inr (10, [.null, .int 0]))] s.heap := hP
  have hl := lv_entry ([.ref q]) (n := 1) (Nat.le_of_ble_eq_true rfl)
  rw [lg_entry_eq]
  generalize (lg_sl ([.ref q]) ++ List.replicate (1 - (lg_sl ([.ref q])).length) Slot.unset).toArray = ls at hl ⊢
  have hl : lv_has ls 1 [(0, .ref q)] := hl
  refine lv_aload_n hx hb dX9_init_0 rfl (lv_at hl 0 rfl) ?_
  refine W.objInit hx hb hown (hts (.methodLink RX9 1 objectInit) (by decide +kernel)) (hts (.instanceMethod objectInit) (by decide +kernel)) (hts (.code objectInit ⟨#[0xb1]⟩ 1 none) (by decide +kernel)) rfl (by rw [hml]; exact hl.1) rfl dX9_init_1 (Nat.le_of_ble_eq_true rfl) (Nat.le_of_ble_eq_true rfl) ?_
  refine W.eq (g2 := F0 m 4 ls []) rfl ?_
  refine lv_aload_n hx hb dX9_init_4 rfl (lv_at hl 0 rfl) ?_
  refine lv_sipush (v := 500) hx hb dX9_init_5 (by decide) ?_
  refine va_newa (atype := .int) (ty := .int) (N' := 500) (n := 500) (a0 := (500, .inl (fun _ => 0))) hx hb (hts (.arrayClass .int) (by decide +kernel)) rfl hK hP hD hS hA (pz_ai 500) (by decide) (by decide) (by decide) (Nat.le_of_ble_eq_true rfl) (Nat.le_of_ble_eq_true rfl) dX9_init_8 (fun q_1 cA_2 H hK hP hD hS => ?_)
  have hP : va_P (dC, dI) vwCl [(q, .inr (10, [.null, .int 0])), (q_1, .inl (cA_2, 500, .inl (fun _ => 0)))] H := hP
  have hD : va_D A [(q, .inr (10, [.null, .int 0])), (q_1, .inl (cA_2, 500, .inl (fun _ => 0)))] := hD
  have hK : va_K (dC, dI) vwCl [(cA_2, .int)] s := hK
  refine va_putF (D := (dC, dI)) (ci := 10) (v := .ref q_1) (ty := .array .int) (C := RX9) (T := TX9) (N := 2) hx hb hts hinX9 tyX9 tyX9_ok nmX9 hown hK hP hD hS 0 rfl rfl 0 (by decide) (hts (.fieldLink RX9 9 "LogRiver$Tape" "bytes" "[I") (by decide +kernel)) (fun _ h9 => h9) rfl hin rfl (by decide +kernel) rfl rfl (Nat.le_of_ble_eq_true rfl) dX9_init_10 (fun H locs hP hD hS => ?_)
  have hP : va_P (dC, dI) vwCl [(q, .inr (10, [.ref q_1, .int 0])), (q_1, .inl (cA_2, 500, .inl (fun _ => 0)))] H := hP
  have hD : va_D A [(q, .inr (10, [.ref q_1, .int 0])), (q_1, .inl (cA_2, 500, .inl (fun _ => 0)))] := hD
  refine W.widen (k := 1) (n := 500) (Nat.le_of_ble_eq_true rfl) (Nat.le_of_ble_eq_true rfl) ?_
  have hP9 := hP.sub (ws' := [(q, .inr (10, [.ref q_1, .int 0])), (q_1, .inl (cA_2, 500, .inl (fun _ => 0)))]) [0, 1] rfl
  have hD9 := hD.sub (ws' := [(q, .inr (10, [.ref q_1, .int 0])), (q_1, .inl (cA_2, 500, .inl (fun _ => 0)))]) [0, 1] (by decide) rfl
  have hK9 := hK.sub (tys' := [(cA_2, .int)]) [0] rfl
  exact W.vret hx hb hr (fun t ht hW => ⟨⟨(q_1, cA_2), rfl, trivial, ⟨(by rw [ht]; exact hP9), hD9, va_K.moved hW.alike hK9⟩⟩, hS.F ht⟩) hS.2.2 dX9_init_13
set_option maxHeartbeats 8000000 in
set_option maxRecDepth 100000 in
/-- LawReader() -/
theorem c_X5_init (l : Launch) (hlt : l.stackTraces = false) (e0 : Nat) (dC : Nat → ClassId) (dI : Nat → Nat → Nat) (sz : Nat) (q tp : Nat) : Met l yX5_init wsX5_init ({ frames := 2, cells := 2, slots := 505, locals := 33 }) (va_Pc [.ref q, .ref tp] (pz_P e0 (dC, dI) [] [(q, .inr (6, [.null, .null, .int 0, .int 0, .int 0]))] sz)) (va_Qv (S := Nat × Nat × ClassId) (fun _ : Nat × Nat × ClassId => True) (fun u t => va_P (dC, dI) vwCl [(q, .inr (6, [.ref u.1, .ref u.2.1, .int 0, .int 0, .int 0])), (u.1, .inr (11, [.ref tp, .int 0, .int 0, .int 0, .int 0])), (u.2.1, .inl (u.2.2, 500, .inl (fun _ => 0)))] t.heap ∧ va_D (va_A [(q, .inr (6, [.null, .null, .int 0, .int 0, .int 0]))] sz) [(q, .inr (6, [.ref u.1, .ref u.2.1, .int 0, .int 0, .int 0])), (u.1, .inr (11, [.ref tp, .int 0, .int 0, .int 0, .int 0])), (u.2.1, .inl (u.2.2, 500, .inl (fun _ => 0)))] ∧ va_K (dC, dI) vwCl [(u.2.2, .int)] t) (va_A [(q, .inr (6, [.null, .null, .int 0, .int 0, .int 0]))] sz)) 2 505 (va_A [(q, .inr (6, [.null, .null, .int 0, .int 0, .int 0]))] sz) := by
  refine Met.ofW (cc := cX5_init) (maxL := 2) (ret := none) (by decide) rfl ?_
  intro p e s m args below meth c s₁ B hml hv
  obtain ⟨rfl, hsz, hP, hK, hD0, hZ, hV, hT⟩ := hv
  have hx := B.exec
  have hb := B.bytes
  have hr := B.returns
  have hts := atoms_spec (ws := wsX5_init) B.pre
  have hown : s.vm.findClass RX5 = some m.cls := findClass_of_methodNamed B.named
  have hlocks := B.notSynchronized
  have hin : meth.name = "<init>" := (name_of_methodNamed B.named B.method).1
  have hinX10 : ∀ w ∈ wsX100, w ∈ wsX5_init := fun w h => by unfold wsX5_init; simp only [List.mem_cons, List.mem_append, h, or_true, true_or]
  have hinX5 : ∀ w ∈ wsX50, w ∈ wsX5_init := fun w h => by unfold wsX5_init; simp only [List.mem_cons, List.mem_append, h, or_true, true_or]
  subst hsz
  have hD := hD0.self (sz := s.heap.size)
  generalize hAe : va_A [(q, .inr (6, [.null, .null, .int 0, .int 0, .int 0]))] s.heap.size = A at hD hZ hT ⊢
  have hA : ∀ q : Nat, s.heap.size ≤ q → A q := fun q h => by rw [← hAe]; exact Or.inr h
  have hS : va_S A s.heap s.heap [] := va_S.rf
  have hP : va_P (dC, dI) vwCl [(q, .inr (6, [.null, .null, .int 0, .int 0, .int 0]))] s.heap := hP
  have hl := lv_entry ([.ref q, .ref tp]) (n := 2) (Nat.le_of_ble_eq_true rfl)
  rw [lg_entry_eq]
  generalize (lg_sl ([.ref q, .ref tp]) ++ List.replicate (2 - (lg_sl ([.ref q, .ref tp])).length) Slot.unset).toArray = ls at hl ⊢
  have hl : lv_has ls 2 [(0, .ref q), (1, .ref tp)] := hl
  refine lv_aload_n hx hb dX5_init_0 rfl (lv_at hl 0 rfl) ?_
  refine W.objInit hx hb hown (hts (.methodLink RX5 3 objectInit) (by decide +kernel)) (hts (.instanceMethod objectInit) (by decide +kernel)) (hts (.code objectInit ⟨#[0xb1]⟩ 1 none) (by decide +kernel)) rfl (by rw [hml]; exact hl.1) rfl dX5_init_1 (Nat.le_of_ble_eq_true rfl) (Nat.le_of_ble_eq_true rfl) ?_
  refine W.eq (g2 := F0 m 4 ls []) rfl ?_
  refine lv_aload_n hx hb dX5_init_4 rfl (lv_at hl 0 rfl) ?_
  refine va_new (ci := 11) (fs := [.null, .int 0, .int 0, .int 0, .int 0]) (C := RX10) (T := TX10) (N := 5) hx hb hts hinX10 tyX10 tyX10_ok hown (hts (.classLink RX5 9 RX10) (by decide +kernel)) (hts (.instantiable RX10 5) (by decide +kernel)) (hts (.initialized RX10) (by decide +kernel)) hK hP hD hS hA rfl dfX10 (Nat.le_of_ble_eq_true rfl) (Nat.le_of_ble_eq_true rfl) dX5_init_5 (fun q_1 H hP hD hS => ?_)
  have hP : va_P (dC, dI) vwCl [(q, .inr (6, [.null, .null, .int 0, .int 0, .int 0])), (q_1, .inr (11, [.null, .int 0, .int 0, .int 0, .int 0]))] H := hP
  have hD : va_D A [(q, .inr (6, [.null, .null, .int 0, .int 0, .int 0])), (q_1, .inr (11, [.null, .int 0, .int 0, .int 0, .int 0]))] := hD
  refine lv_dup hx hb dX5_init_8 rfl ?_
  refine lv_aload_n hx hb dX5_init_9 rfl (lv_at hl 1 rfl) ?_
  have hPc := hP.sub (ws' := [(q_1, .inr (11, [.null, .int 0, .int 0, .int 0, .int 0]))]) [1] rfl
  have hDc := hD.sub (ws' := [(q_1, .inr (11, [.null, .int 0, .int 0, .int 0, .int 0]))]) [1] (by decide) rfl
  have hKc := hK.sub (tys' := []) [] rfl
  have hFc := va_free (wc := [(q_1, .inr (11, [.null, .int 0, .int 0, .int 0, .int 0]))]) hD hS hA [1] rfl
  refine va_callv (va_runI (As := [.ref tp]) (rest := [.ref q_1, .ref q]) ⟨hx, hb, hml, hown, hts⟩ (c_X10_init l hlt e0 dC dI H.size q_1 tp) (cwI 1 hts gX5_init_X10_init rfl rfl rfl (hts (.initialized RX10) (by decide +kernel)) (hts (.methodLink RX5 11 yX10_init) (by decide +kernel)) (hts (.instanceMethod yX10_init) (by decide +kernel)) rfl (by decide +kernel) ⟨Nat.le_of_ble_eq_true rfl, Nat.le_of_ble_eq_true rfl⟩) (pz_preS [.ref q_1, .ref tp] hPc hDc hKc hZ hV hT hS hFc) rfl rfl hl.1 rfl (lv_room (Nat.le_of_ble_eq_true rfl)) dX5_init_10 ⟨Nat.le_of_ble_eq_true rfl, Nat.le_of_ble_eq_true rfl⟩) hS (fun q _ h => hFc q h) hFc (fun u_3 t H locs ht hvm hw_4 hB_5 hz1 hk1 hS => ?_)
  obtain ⟨hP1, hD1⟩ := hB_5
  rw [ht] at hP1
  obtain ⟨hP, hD⟩ := va_join (wr := [(q, .inr (6, [.null, .null, .int 0, .int 0, .int 0]))]) (w1 := [(q_1, .inr (11, [.ref tp, .int 0, .int 0, .int 0, .int 0]))]) hP hD [1] [0] rfl rfl (by decide) (by decide) hk1 hFc hP1 hD1
  have hP : va_P (dC, dI) vwCl [(q, .inr (6, [.null, .null, .int 0, .int 0, .int 0])), (q_1, .inr (11, [.ref tp, .int 0, .int 0, .int 0, .int 0]))] H := hP
  have hD : va_D A [(q, .inr (6, [.null, .null, .int 0, .int 0, .int 0])), (q_1, .inr (11, [.ref tp, .int 0, .int 0, .int 0, .int 0]))] := hD
  refine va_putF (D := (dC, dI)) (ci := 6) (v := .ref q_1) (ty := .object "LogRiver$Tokens") (C := RX5) (T := TX5) (N := 5) hx hb hts hinX5 tyX5 tyX5_ok nmX5 hown hK hP hD hS 0 rfl rfl 0 (by decide) (hts (.fieldLink RX5 14 "LogRiver$LawReader" "tokens" "LLogRiver$Tokens;") (by decide +kernel)) (fun _ h9 => h9) rfl hin rfl (by decide +kernel) rfl rfl (Nat.le_of_ble_eq_true rfl) dX5_init_13 (fun H locs hP hD hS => ?_)
  have hP : va_P (dC, dI) vwCl [(q, .inr (6, [.ref q_1, .null, .int 0, .int 0, .int 0])), (q_1, .inr (11, [.ref tp, .int 0, .int 0, .int 0, .int 0]))] H := hP
  have hD : va_D A [(q, .inr (6, [.ref q_1, .null, .int 0, .int 0, .int 0])), (q_1, .inr (11, [.ref tp, .int 0, .int 0, .int 0, .int 0]))] := hD
  refine lv_aload_n hx hb dX5_init_16 rfl (lv_at hl 0 rfl) ?_
  refine lv_sipush (v := 500) hx hb dX5_init_17 (by decide) ?_
  refine va_newa (atype := .int) (ty := .int) (N' := 500) (n := 500) (a0 := (500, .inl (fun _ => 0))) hx hb (hts (.arrayClass .int) (by decide +kernel)) rfl hK hP hD hS hA (pz_ai 500) (by decide) (by decide) (by decide) (Nat.le_of_ble_eq_true rfl) (Nat.le_of_ble_eq_true rfl) dX5_init_20 (fun q_6 cA_7 H hK hP hD hS => ?_)
  have hP : va_P (dC, dI) vwCl [(q, .inr (6, [.ref q_1, .null, .int 0, .int 0, .int 0])), (q_1, .inr (11, [.ref tp, .int 0, .int 0, .int 0, .int 0])), (q_6, .inl (cA_7, 500, .inl (fun _ => 0)))] H := hP
  have hD : va_D A [(q, .inr (6, [.ref q_1, .null, .int 0, .int 0, .int 0])), (q_1, .inr (11, [.ref tp, .int 0, .int 0, .int 0, .int 0])), (q_6, .inl (cA_7, 500, .inl (fun _ => 0)))] := hD
  have hK : va_K (dC, dI) vwCl [(cA_7, .int)] s := hK
  refine va_putF (D := (dC, dI)) (ci := 6) (v := .ref q_6) (ty := .array .int) (C := RX5) (T := TX5) (N := 5) hx hb hts hinX5 tyX5 tyX5_ok nmX5 hown hK hP hD hS 0 rfl rfl 1 (by decide) (hts (.fieldLink RX5 22 "LogRiver$LawReader" "code" "[I") (by decide +kernel)) (fun _ h9 => h9) rfl hin rfl (by decide +kernel) rfl rfl (Nat.le_of_ble_eq_true rfl) dX5_init_22 (fun H locs hP hD hS => ?_)
  have hP : va_P (dC, dI) vwCl [(q, .inr (6, [.ref q_1, .ref q_6, .int 0, .int 0, .int 0])), (q_1, .inr (11, [.ref tp, .int 0, .int 0, .int 0, .int 0])), (q_6, .inl (cA_7, 500, .inl (fun _ => 0)))] H := hP
  have hD : va_D A [(q, .inr (6, [.ref q_1, .ref q_6, .int 0, .int 0, .int 0])), (q_1, .inr (11, [.ref tp, .int 0, .int 0, .int 0, .int 0])), (q_6, .inl (cA_7, 500, .inl (fun _ => 0)))] := hD
  refine W.widen (k := 2) (n := 505) (Nat.le_of_ble_eq_true rfl) (Nat.le_of_ble_eq_true rfl) ?_
  have hP9 := hP.sub (ws' := [(q, .inr (6, [.ref q_1, .ref q_6, .int 0, .int 0, .int 0])), (q_1, .inr (11, [.ref tp, .int 0, .int 0, .int 0, .int 0])), (q_6, .inl (cA_7, 500, .inl (fun _ => 0)))]) [0, 1, 2] rfl
  have hD9 := hD.sub (ws' := [(q, .inr (6, [.ref q_1, .ref q_6, .int 0, .int 0, .int 0])), (q_1, .inr (11, [.ref tp, .int 0, .int 0, .int 0, .int 0])), (q_6, .inl (cA_7, 500, .inl (fun _ => 0)))]) [0, 1, 2] (by decide) rfl
  have hK9 := hK.sub (tys' := [(cA_7, .int)]) [0] rfl
  exact W.vret hx hb hr (fun t ht hW => ⟨⟨(q_1, q_6, cA_7), rfl, trivial, ⟨(by rw [ht]; exact hP9), hD9, va_K.moved hW.alike hK9⟩⟩, hS.F ht⟩) hS.2.2 dX5_init_25
set_option maxHeartbeats 8000000 in
set_option maxRecDepth 100000 in
/-- Judge() -/
theorem c_X3_init (l : Launch) (hlt : l.stackTraces = false) (e0 : Nat) (dC : Nat → ClassId) (dI : Nat → Nat → Nat) (sz : Nat) (q : Nat) : Met l yX3_init wsX3_init ({ frames := 1, cells := 2, slots := 40, locals := 12 }) (va_Pc [.ref q] (pz_P e0 (dC, dI) [] [(q, .inr (4, [.null, .null, .int 0, .int 0, .long 0]))] sz)) (va_Qv (S := Unit) (fun _ : Unit => True) (fun _ _ => True) (va_A [(q, .inr (4, [.null, .null, .int 0, .int 0, .long 0]))] sz)) 2 40 (va_A [(q, .inr (4, [.null, .null, .int 0, .int 0, .long 0]))] sz) := by
  refine Met.ofW (cc := cX3_init) (maxL := 1) (ret := none) (by decide) rfl ?_
  intro p e s m args below meth c s₁ B hml hv
  obtain ⟨rfl, hsz, hP, hK, hD0, hZ, hV, hT⟩ := hv
  have hx := B.exec
  have hb := B.bytes
  have hr := B.returns
  have hts := atoms_spec (ws := wsX3_init) B.pre
  have hown : s.vm.findClass RX3 = some m.cls := findClass_of_methodNamed B.named
  have hlocks := B.notSynchronized
  have hin : meth.name = "<init>" := (name_of_methodNamed B.named B.method).1
  have hinX3 : ∀ w ∈ wsX30, w ∈ wsX3_init := fun w h => by unfold wsX3_init; simp only [List.mem_cons, List.mem_append, h, or_true, true_or]
  subst hsz
  have hD := hD0.self (sz := s.heap.size)
  generalize hAe : va_A [(q, .inr (4, [.null, .null, .int 0, .int 0, .long 0]))] s.heap.size = A at hD hZ hT ⊢
  have hA : ∀ q : Nat, s.heap.size ≤ q → A q := fun q h => by rw [← hAe]; exact Or.inr h
  have hS : va_S A s.heap s.heap [] := va_S.rf
  have hP : va_P (dC, dI) vwCl [(q, .inr (4, [.null, .null, .int 0, .int 0, .long 0]))] s.heap := hP
  have hl := lv_entry ([.ref q]) (n := 1) (Nat.le_of_ble_eq_true rfl)
  rw [lg_entry_eq]
  generalize (lg_sl ([.ref q]) ++ List.replicate (1 - (lg_sl ([.ref q])).length) Slot.unset).toArray = ls at hl ⊢
  have hl : lv_has ls 1 [(0, .ref q)] := hl
  refine lv_aload_n hx hb dX3_init_0 rfl (lv_at hl 0 rfl) ?_
  refine W.objInit hx hb hown (hts (.methodLink RX3 5 objectInit) (by decide +kernel)) (hts (.instanceMethod objectInit) (by decide +kernel)) (hts (.code objectInit ⟨#[0xb1]⟩ 1 none) (by decide +kernel)) rfl (by rw [hml]; exact hl.1) rfl dX3_init_1 (Nat.le_of_ble_eq_true rfl) (Nat.le_of_ble_eq_true rfl) ?_
  refine W.eq (g2 := F0 m 4 ls []) rfl ?_
  refine lv_aload_n hx hb dX3_init_4 rfl (lv_at hl 0 rfl) ?_
  refine lv_bipush (v := 33) hx hb dX3_init_5 (by decide) ?_
  refine va_newa (atype := .int) (ty := .int) (N' := 33) (n := 33) (a0 := (33, .inl (fun _ => 0))) hx hb (hts (.arrayClass .int) (by decide +kernel)) rfl hK hP hD hS hA (pz_ai 33) (by decide) (by decide) (by decide) (Nat.le_of_ble_eq_true rfl) (Nat.le_of_ble_eq_true rfl) dX3_init_7 (fun q_1 cA_2 H hK hP hD hS => ?_)
  have hP : va_P (dC, dI) vwCl [(q, .inr (4, [.null, .null, .int 0, .int 0, .long 0])), (q_1, .inl (cA_2, 33, .inl (fun _ => 0)))] H := hP
  have hD : va_D A [(q, .inr (4, [.null, .null, .int 0, .int 0, .long 0])), (q_1, .inl (cA_2, 33, .inl (fun _ => 0)))] := hD
  have hK : va_K (dC, dI) vwCl [(cA_2, .int)] s := hK
  refine va_putF (D := (dC, dI)) (ci := 4) (v := .ref q_1) (ty := .array .int) (C := RX3) (T := TX3) (N := 5) hx hb hts hinX3 tyX3 tyX3_ok nmX3 hown hK hP hD hS 0 rfl rfl 0 (by decide) (hts (.fieldLink RX3 13 "LogRiver$Judge" "stack" "[I") (by decide +kernel)) (fun _ h9 => h9) rfl hin rfl (by decide +kernel) rfl rfl (Nat.le_of_ble_eq_true rfl) dX3_init_9 (fun H locs hP hD hS => ?_)
  have hP : va_P (dC, dI) vwCl [(q, .inr (4, [.ref q_1, .null, .int 0, .int 0, .long 0])), (q_1, .inl (cA_2, 33, .inl (fun _ => 0)))] H := hP
  have hD : va_D A [(q, .inr (4, [.ref q_1, .null, .int 0, .int 0, .long 0])), (q_1, .inl (cA_2, 33, .inl (fun _ => 0)))] := hD
  refine lv_aload_n hx hb dX3_init_12 rfl (lv_at hl 0 rfl) ?_
  refine lv_bipush (v := 7) hx hb dX3_init_13 (by decide) ?_
  refine va_newa (atype := .int) (ty := .int) (N' := 7) (n := 7) (a0 := (7, .inl (fun _ => 0))) hx hb (hts (.arrayClass .int) (by decide +kernel)) rfl hK hP hD hS hA (pz_ai 7) (by decide) (by decide) (by decide) (Nat.le_of_ble_eq_true rfl) (Nat.le_of_ble_eq_true rfl) dX3_init_15 (fun q_3 cA_4 H hK hP hD hS => ?_)
  have hP : va_P (dC, dI) vwCl [(q, .inr (4, [.ref q_1, .null, .int 0, .int 0, .long 0])), (q_1, .inl (cA_2, 33, .inl (fun _ => 0))), (q_3, .inl (cA_4, 7, .inl (fun _ => 0)))] H := hP
  have hD : va_D A [(q, .inr (4, [.ref q_1, .null, .int 0, .int 0, .long 0])), (q_1, .inl (cA_2, 33, .inl (fun _ => 0))), (q_3, .inl (cA_4, 7, .inl (fun _ => 0)))] := hD
  have hK : va_K (dC, dI) vwCl [(cA_2, .int), (cA_4, .int)] s := hK
  refine va_putF (D := (dC, dI)) (ci := 4) (v := .ref q_3) (ty := .array .int) (C := RX3) (T := TX3) (N := 5) hx hb hts hinX3 tyX3 tyX3_ok nmX3 hown hK hP hD hS 0 rfl rfl 1 (by decide) (hts (.fieldLink RX3 19 "LogRiver$Judge" "names" "[I") (by decide +kernel)) (fun _ h9 => h9) rfl hin rfl (by decide +kernel) rfl rfl (Nat.le_of_ble_eq_true rfl) dX3_init_17 (fun H locs hP hD hS => ?_)
  have hP : va_P (dC, dI) vwCl [(q, .inr (4, [.ref q_1, .ref q_3, .int 0, .int 0, .long 0])), (q_1, .inl (cA_2, 33, .inl (fun _ => 0))), (q_3, .inl (cA_4, 7, .inl (fun _ => 0)))] H := hP
  have hD : va_D A [(q, .inr (4, [.ref q_1, .ref q_3, .int 0, .int 0, .long 0])), (q_1, .inl (cA_2, 33, .inl (fun _ => 0))), (q_3, .inl (cA_4, 7, .inl (fun _ => 0)))] := hD
  refine W.widen (k := 2) (n := 40) (Nat.le_of_ble_eq_true rfl) (Nat.le_of_ble_eq_true rfl) ?_
  exact W.vret hx hb hr (fun t ht hW => ⟨⟨(), rfl, trivial, trivial⟩, hS.F ht⟩) hS.2.2 dX3_init_20

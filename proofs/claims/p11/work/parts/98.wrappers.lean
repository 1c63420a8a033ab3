/-! the law's wrappers: a call, its answer put into the law's array, or what it throws caught -/
abbrev kx_MH (l : Launch) (G : kx_G) (y : MethodName) (cc : ByteArray) (n : Nat) (ret : Option FieldType) (hh : List (Nat × Nat × Nat × Nat)) (fr lo : Nat) (av : List Value) (σ : kx_S) (P : Option Value → kx_S → Prop) : Prop :=
  vx_Met l y (Cond.codeWith y cc n ret hh :: kt_) (kx_rm fr lo (xc σ)) (va_Pc av (kx_B G σ)) (kx_Q G σ P) (kx_XC G σ (fun _ _ => False)) (kx_N - xc σ) (600 * (kx_N - xc σ)) (kx_A G)
theorem kx_enterH {l : Launch} {G : kx_G} {σ : kx_S} {cc : ByteArray} {own : String} {fr lo : Nat} {y : MethodName} {n : Nat} {ret : Option FieldType} {hh : List (Nat × Nat × Nat × Nat)} {av : List Value} {P : Option Value → kx_S → Prop} (hy : plainName y.cls = true) (hyc : y.cls = own) (hn : (lg_sl av).length ≤ n)
    (body : ∀ (p : Program) (e : Env) (s : State) (m : MethodId) (below : List Frame) (meth : Method) (c : Code) (ls : Array Slot), CallFix p m c cc n s av.toArray kt_ own → meth.sig.returnType = ret → meth.locks = false → kx_X G (xc σ) s s.heap [] σ → c.exceptionTable.toList = tableOf hh → lv_has ls n (lv_args 0 av) →
      kx_W p l e fr lo (xc σ) s m av.toArray below meth c s.heap [] σ (vx_MQ below (kx_Q G σ P) (kx_XC G σ (fun _ _ => False)) av.toArray s (kx_N - xc σ) (600 * (kx_N - xc σ)) (kx_A G)) (F0 m 0 ls [])) : kx_MH l G y cc n ret hh fr lo av σ P := by
  refine vx_ofWH (cc := cc) (maxL := n) (ret := ret) (hh := hh) hy rfl ?_
  intro p e s m args below meth c s₁ B hml hv
  obtain ⟨rfl, hN, hZ, hP⟩ := hv
  have hts := atoms_spec (ws := Cond.codeWith y cc n ret hh :: kt_) B.pre
  have hown : s.vm.findClass y.cls = some m.cls := findClass_of_methodNamed B.named
  rw [hyc] at hown
  have htab := vx_table (x := y) B (hts _ List.mem_cons_self)
  have hl := lv_entry av (n := n) hn
  rw [lg_entry_eq]
  have k := body p e s m below meth c _ ⟨B.exec, B.bytes, hml, hown, fun w hw => hts w (List.mem_cons_of_mem _ hw)⟩ B.returns B.notSynchronized ⟨Nat.le_refl _, hN, hZ, va_S.rf, hP⟩ htab hl
  rw [kx_W, Nat.sub_self, Nat.mul_zero] at k
  exact k
theorem uy_1 : Cond.classLink RL 13 "java/util/NoSuchElementException" ∈ kt_ := kt_m (kt_t2 _ (List.mem_of_getElem? (i := 218) (by decide +kernel))) (by decide +kernel)
theorem uy_2 : Cond.methodLink RL 7 yX11_dam ∈ kt_ := kt_m (kt_t2 _ (List.mem_of_getElem? (i := 219) (by decide +kernel))) (by decide +kernel)
theorem uy_3 : Cond.methodLink RL 15 yX11_gate ∈ kt_ := kt_m (kt_t3 _ (List.mem_of_getElem? (i := 58) (by decide +kernel))) (by decide +kernel)
theorem uy_4 : Cond.methodLink RL 19 yX11_melt ∈ kt_ := kt_m (kt_t3 _ (List.mem_of_getElem? (i := 65) (by decide +kernel))) (by decide +kernel)
theorem uy_5 : Cond.methodLink RL 22 yX11_boom ∈ kt_ := kt_m (kt_t3 _ (List.mem_of_getElem? (i := 72) (by decide +kernel))) (by decide +kernel)
theorem uy_6 : Cond.methodLink RL 26 yX11_watch ∈ kt_ := kt_m (kt_t3 _ (List.mem_of_getElem? (i := 104) (by decide +kernel))) (by decide +kernel)
theorem uy_7 : Cond.methodLink RL 30 yX11_crew ∈ kt_ := kt_m (kt_t3 _ (List.mem_of_getElem? (i := 111) (by decide +kernel))) (by decide +kernel)
theorem uy_8 : Cond.classLink RL 36 "java/lang/IllegalArgumentException" ∈ kt_ := kt_m (kt_t3 _ (List.mem_of_getElem? (i := 141) (by decide +kernel))) (by decide +kernel)
theorem uy_9 : Cond.methodLink RL 33 yX11_law ∈ kt_ := kt_m (kt_t3 _ (List.mem_of_getElem? (i := 142) (by decide +kernel))) (by decide +kernel)
theorem uy_10 : Cond.methodLink RL 38 yX11_let ∈ kt_ := kt_m (kt_t4 _ (List.mem_of_getElem? (i := 85) (by decide +kernel))) (by decide +kernel)
theorem uy_11 : Cond.methodLink RL 42 yX11_hours ∈ kt_ := kt_m (kt_t4 _ (List.mem_of_getElem? (i := 147) (by decide +kernel))) (by decide +kernel)
theorem uy_12 : Cond.methodLink RL 46 yX11_order ∈ kt_ := kt_m (kt_t5 _ (List.mem_of_getElem? (i := 36) (by decide +kernel))) (by decide +kernel)
theorem uy_13 : Cond.methodLink RL 50 yX11_wants ∈ kt_ := kt_m (kt_t5 _ (List.mem_of_getElem? (i := 61) (by decide +kernel))) (by decide +kernel)
theorem uy_14 : Cond.methodLink RL 53 yX11_log ∈ kt_ := kt_m (kt_t5 _ (List.mem_of_getElem? (i := 69) (by decide +kernel))) (by decide +kernel)
theorem uy_15 : Cond.methodLink RL 56 yX11_cell ∈ kt_ := kt_m (kt_t5 _ (List.mem_of_getElem? (i := 77) (by decide +kernel))) (by decide +kernel)
theorem uy_16 : Cond.methodLink RL 59 yX11_inCell ∈ kt_ := kt_m (kt_t5 _ (List.mem_of_getElem? (i := 85) (by decide +kernel))) (by decide +kernel)
theorem uy_17 : Cond.methodLink RL 62 yX11_heap ∈ kt_ := kt_m (kt_t5 _ (List.mem_of_getElem? (i := 95) (by decide +kernel))) (by decide +kernel)
theorem uy_18 : Cond.methodLink RL 65 yX11_water ∈ kt_ := kt_m (kt_t5 _ (List.mem_of_getElem? (i := 102) (by decide +kernel))) (by decide +kernel)
theorem uy_19 : Cond.methodLink RL 68 yX11_waters ∈ kt_ := kt_m (kt_t5 _ (List.mem_of_getElem? (i := 110) (by decide +kernel))) (by decide +kernel)
theorem uy_20 : Cond.methodLink RL 72 yX11_board ∈ kt_ := kt_m (kt_t5 _ (List.mem_of_getElem? (i := 118) (by decide +kernel))) (by decide +kernel)
theorem uy_21 : Cond.methodLink RL 75 yX11_paid ∈ kt_ := kt_m (kt_t5 _ (List.mem_of_getElem? (i := 126) (by decide +kernel))) (by decide +kernel)
theorem uy_22 : Cond.methodLink RL 78 yX11_count ∈ kt_ := kt_m (kt_t5 _ (List.mem_of_getElem? (i := 134) (by decide +kernel))) (by decide +kernel)
theorem dL_dam_0 : decode cL_dam 0 = .ok (.aload_n 3, 1) := by decide +kernel
theorem dL_dam_1 : decode cL_dam 1 = .ok (.iconst 0, 1) := by decide +kernel
theorem dL_dam_2 : decode cL_dam 2 = .ok (.aload_n 0, 1) := by decide +kernel
theorem dL_dam_3 : decode cL_dam 3 = .ok (.iload_n 1, 1) := by decide +kernel
theorem dL_dam_4 : decode cL_dam 4 = .ok (.iload_n 2, 1) := by decide +kernel
theorem dL_dam_5 : decode cL_dam 5 = .ok (.invokevirtual 7, 3) := by decide +kernel
theorem dL_dam_8 : decode cL_dam 8 = .ok (.ifCond .eq 7, 3) := by decide +kernel
theorem dL_dam_11 : decode cL_dam 11 = .ok (.lconst 1, 1) := by decide +kernel
theorem dL_dam_12 : decode cL_dam 12 = .ok (.goto 4, 3) := by decide +kernel
theorem dL_dam_15 : decode cL_dam 15 = .ok (.lconst 0, 1) := by decide +kernel
theorem dL_dam_16 : decode cL_dam 16 = .ok (.lastore, 1) := by decide +kernel
theorem dL_dam_17 : decode cL_dam 17 = .ok (.goto 7, 3) := by decide +kernel
theorem dL_dam_20 : decode cL_dam 20 = .ok (.astore 4, 2) := by decide +kernel
theorem dL_dam_22 : decode cL_dam 22 = .ok (.iconst 1, 1) := by decide +kernel
theorem dL_dam_23 : decode cL_dam 23 = .ok (.ireturn, 1) := by decide +kernel
theorem dL_dam_24 : decode cL_dam 24 = .ok (.iconst 0, 1) := by decide +kernel
theorem dL_dam_25 : decode cL_dam 25 = .ok (.ireturn, 1) := by decide +kernel
set_option maxRecDepth 100000 in
set_option maxHeartbeats 4000000 in
theorem hw_dam (l : Launch) (hlt : l.stackTraces = false) (G : kx_G) (x : Nat) (p0 p1 : Int32) (o : Nat) (σ : kx_S) (P : Int32 → kx_S → Prop) (PX : String → kx_S → Prop) (Q : Int32 → kx_S → Prop) (hx : xt σ x = 13) (h : wX11_dam x p0 p1 σ P PX) (hP : ∀ r u, P r u → (xt u o = 21 ∧ 1 ≤ xn u o) ∧ Q 0 (xsal u o (Int32.toNatClampNeg 0) (if r = 0 then 0 else 1))) (hPX : ∀ E u, PX E u → E = pz_N ∧ Q 1 u) : kx_MH l G yL_dam cL_dam 5 (some .int) [(0, 17, 20, 13)] 8 126 [.ref x, .int p0, .int p1, .ref o] σ (kx_ri Q) := by
  refine kx_enterH (by decide) rfl (Nat.le_of_ble_eq_true rfl) ?_
  intro p e s m below meth c ls F hr hlocks C htab hl
  have hl : lv_has ls 5 [(0, .ref x), (1, .int p0), (2, .int p1), (3, .ref o)] := hl
  obtain ⟨H, eH⟩ : ∃ z9, z9 = s.heap := ⟨_, rfl⟩
  obtain ⟨locs, eL⟩ : ∃ z9 : List Loc, z9 = [] := ⟨_, rfl⟩
  rw [← eH, ← eL] at C
  rw [← eH, ← eL]
  obtain ⟨σ0, e0⟩ : ∃ z9, z9 = σ := ⟨_, rfl⟩
  have C : kx_X G (xc σ0) s H locs σ := by rw [e0]; exact C
  suffices hgo : kx_W p l e 8 126 (xc σ0) s m ([.ref x, .int p0, .int p1, .ref o] : List Value).toArray below meth c H locs σ (vx_MQ below (kx_Q G σ0 (kx_ri Q)) (kx_XC G σ0 (fun _ _ => False)) ([.ref x, .int p0, .int p1, .ref o] : List Value).toArray s (kx_N - xc σ0) (600 * (kx_N - xc σ0)) (kx_A G)) (F0 m 0 ls []) by rw [e0] at hgo; exact hgo
  clear e0
  refine lv_aload_n F.1 F.2.1 dL_dam_0 rfl (lv_at hl 3 rfl) ?_
  refine lv_iconst (v := 0) F.1 F.2.1 dL_dam_1 (by decide) ?_
  refine lv_aload_n F.1 F.2.1 dL_dam_2 rfl (lv_at hl 0 rfl) ?_
  refine lv_iload_n F.1 F.2.1 dL_dam_3 rfl (lv_at hl 1 rfl) ?_
  refine lv_iload_n F.1 F.2.1 dL_dam_4 rfl (lv_at hl 2 rfl) ?_
  refine xk_X11_dam hlt F C x p0 p1 hx h uy_2 (Nat.le_of_ble_eq_true rfl) (Nat.le_of_ble_eq_true rfl) hl.1 (by simp [Value.category]) dL_dam_5 (fun E9 ce9 q9 u H locs h9 C hce hcv hcl => ?_) (fun r u H locs h9 C => ?_)
  · obtain ⟨eE, hq⟩ := hPX E9 u h9
    rw [eE] at hcl
    refine pq_catch F.2.2.2.1 _ htab (by decide) (by decide) (F.2.2.2.2 _ uy_1) (va_any rfl C.2.2.1.2.2.2.1.2.2.2.1.2.2.2.1) hce hcv hcl ?_
    refine lv_astore (lv' := [(4, .ref q9), (0, .ref x), (1, .int p0), (2, .int p1), (3, .ref o)]) F.1 F.2.1 dL_dam_20 hl (by decide) rfl (fun ls hl => ?_)
    refine lv_iconst (v := 1) F.1 F.2.1 dL_dam_22 (by decide) ?_
    refine vx_ret ?_
    exact kx_iret F C hr hlocks hq dL_dam_23
  · obtain ⟨⟨ho, hno⟩, hq⟩ := hP r u h9
    have hin : vp_in 0 (xn u o) := by rw [ki_in, ki_z0]; omega
    refine lv_if_eq (tgt := 15) F.1 F.2.1 dL_dam_8 (by decide) (fun c9 => ?_) (fun c9 => ?_)
    · refine lv_lconst (v := 0) F.1 F.2.1 dL_dam_15 (by decide) ?_
      refine kx_last F C ho hin dL_dam_16 (fun H locs C => ?_)
      refine lv_goto (tgt := 24) F.1 F.2.1 dL_dam_17 (by decide) ?_
      refine lv_iconst (v := 0) F.1 F.2.1 dL_dam_24 (by decide) ?_
      refine vx_ret ?_
      exact kx_iret F C hr hlocks (by rw [if_pos c9] at hq; exact hq) dL_dam_25
    · refine lv_lconst (v := 1) F.1 F.2.1 dL_dam_11 (by decide) ?_
      refine lv_goto (tgt := 16) F.1 F.2.1 dL_dam_12 (by decide) ?_
      refine kx_last F C ho hin dL_dam_16 (fun H locs C => ?_)
      refine lv_goto (tgt := 24) F.1 F.2.1 dL_dam_17 (by decide) ?_
      refine lv_iconst (v := 0) F.1 F.2.1 dL_dam_24 (by decide) ?_
      refine vx_ret ?_
      exact kx_iret F C hr hlocks (by rw [if_neg c9] at hq; exact hq) dL_dam_25
theorem dL_gate_0 : decode cL_gate 0 = .ok (.aload_n 3, 1) := by decide +kernel
theorem dL_gate_1 : decode cL_gate 1 = .ok (.iconst 0, 1) := by decide +kernel
theorem dL_gate_2 : decode cL_gate 2 = .ok (.aload_n 0, 1) := by decide +kernel
theorem dL_gate_3 : decode cL_gate 3 = .ok (.iload_n 1, 1) := by decide +kernel
theorem dL_gate_4 : decode cL_gate 4 = .ok (.iload_n 2, 1) := by decide +kernel
theorem dL_gate_5 : decode cL_gate 5 = .ok (.invokevirtual 15, 3) := by decide +kernel
theorem dL_gate_8 : decode cL_gate 8 = .ok (.i2l, 1) := by decide +kernel
theorem dL_gate_9 : decode cL_gate 9 = .ok (.lastore, 1) := by decide +kernel
theorem dL_gate_10 : decode cL_gate 10 = .ok (.goto 7, 3) := by decide +kernel
theorem dL_gate_13 : decode cL_gate 13 = .ok (.astore 4, 2) := by decide +kernel
theorem dL_gate_15 : decode cL_gate 15 = .ok (.iconst 1, 1) := by decide +kernel
theorem dL_gate_16 : decode cL_gate 16 = .ok (.ireturn, 1) := by decide +kernel
theorem dL_gate_17 : decode cL_gate 17 = .ok (.iconst 0, 1) := by decide +kernel
theorem dL_gate_18 : decode cL_gate 18 = .ok (.ireturn, 1) := by decide +kernel
set_option maxRecDepth 100000 in
set_option maxHeartbeats 4000000 in
theorem hw_gate (l : Launch) (hlt : l.stackTraces = false) (G : kx_G) (x : Nat) (p0 p1 : Int32) (o : Nat) (σ : kx_S) (P : Int32 → kx_S → Prop) (PX : String → kx_S → Prop) (Q : Int32 → kx_S → Prop) (hx : xt σ x = 13) (h : wX11_gate x p0 p1 σ P PX) (hP : ∀ r u, P r u → (xt u o = 21 ∧ 1 ≤ xn u o) ∧ Q 0 (xsal u o (Int32.toNatClampNeg 0) r.toInt64)) (hPX : ∀ E u, PX E u → E = pz_N ∧ Q 1 u) : kx_MH l G yL_gate cL_gate 5 (some .int) [(0, 10, 13, 13)] 8 127 [.ref x, .int p0, .int p1, .ref o] σ (kx_ri Q) := by
  refine kx_enterH (by decide) rfl (Nat.le_of_ble_eq_true rfl) ?_
  intro p e s m below meth c ls F hr hlocks C htab hl
  have hl : lv_has ls 5 [(0, .ref x), (1, .int p0), (2, .int p1), (3, .ref o)] := hl
  obtain ⟨H, eH⟩ : ∃ z9, z9 = s.heap := ⟨_, rfl⟩
  obtain ⟨locs, eL⟩ : ∃ z9 : List Loc, z9 = [] := ⟨_, rfl⟩
  rw [← eH, ← eL] at C
  rw [← eH, ← eL]
  obtain ⟨σ0, e0⟩ : ∃ z9, z9 = σ := ⟨_, rfl⟩
  have C : kx_X G (xc σ0) s H locs σ := by rw [e0]; exact C
  suffices hgo : kx_W p l e 8 127 (xc σ0) s m ([.ref x, .int p0, .int p1, .ref o] : List Value).toArray below meth c H locs σ (vx_MQ below (kx_Q G σ0 (kx_ri Q)) (kx_XC G σ0 (fun _ _ => False)) ([.ref x, .int p0, .int p1, .ref o] : List Value).toArray s (kx_N - xc σ0) (600 * (kx_N - xc σ0)) (kx_A G)) (F0 m 0 ls []) by rw [e0] at hgo; exact hgo
  clear e0
  refine lv_aload_n F.1 F.2.1 dL_gate_0 rfl (lv_at hl 3 rfl) ?_
  refine lv_iconst (v := 0) F.1 F.2.1 dL_gate_1 (by decide) ?_
  refine lv_aload_n F.1 F.2.1 dL_gate_2 rfl (lv_at hl 0 rfl) ?_
  refine lv_iload_n F.1 F.2.1 dL_gate_3 rfl (lv_at hl 1 rfl) ?_
  refine lv_iload_n F.1 F.2.1 dL_gate_4 rfl (lv_at hl 2 rfl) ?_
  refine xk_X11_gate hlt F C x p0 p1 hx h uy_3 (Nat.le_of_ble_eq_true rfl) (Nat.le_of_ble_eq_true rfl) hl.1 (by simp [Value.category]) dL_gate_5 (fun E9 ce9 q9 u H locs h9 C hce hcv hcl => ?_) (fun r u H locs h9 C => ?_)
  · obtain ⟨eE, hq⟩ := hPX E9 u h9
    rw [eE] at hcl
    refine pq_catch F.2.2.2.1 _ htab (by decide) (by decide) (F.2.2.2.2 _ uy_1) (va_any rfl C.2.2.1.2.2.2.1.2.2.2.1.2.2.2.1) hce hcv hcl ?_
    refine lv_astore (lv' := [(4, .ref q9), (0, .ref x), (1, .int p0), (2, .int p1), (3, .ref o)]) F.1 F.2.1 dL_gate_13 hl (by decide) rfl (fun ls hl => ?_)
    refine lv_iconst (v := 1) F.1 F.2.1 dL_gate_15 (by decide) ?_
    refine vx_ret ?_
    exact kx_iret F C hr hlocks hq dL_gate_16
  · obtain ⟨⟨ho, hno⟩, hq⟩ := hP r u h9
    have hin : vp_in 0 (xn u o) := by rw [ki_in, ki_z0]; omega
    refine lv_i2l F.1 F.2.1 dL_gate_8 rfl ?_
    refine kx_last F C ho hin dL_gate_9 (fun H locs C => ?_)
    refine lv_goto (tgt := 17) F.1 F.2.1 dL_gate_10 (by decide) ?_
    refine lv_iconst (v := 0) F.1 F.2.1 dL_gate_17 (by decide) ?_
    refine vx_ret ?_
    exact kx_iret F C hr hlocks hq dL_gate_18
theorem dL_melt_0 : decode cL_melt 0 = .ok (.aload_n 3, 1) := by decide +kernel
theorem dL_melt_1 : decode cL_melt 1 = .ok (.iconst 0, 1) := by decide +kernel
theorem dL_melt_2 : decode cL_melt 2 = .ok (.aload_n 0, 1) := by decide +kernel
theorem dL_melt_3 : decode cL_melt 3 = .ok (.iload_n 1, 1) := by decide +kernel
theorem dL_melt_4 : decode cL_melt 4 = .ok (.iload_n 2, 1) := by decide +kernel
theorem dL_melt_5 : decode cL_melt 5 = .ok (.invokevirtual 19, 3) := by decide +kernel
theorem dL_melt_8 : decode cL_melt 8 = .ok (.i2l, 1) := by decide +kernel
theorem dL_melt_9 : decode cL_melt 9 = .ok (.lastore, 1) := by decide +kernel
theorem dL_melt_10 : decode cL_melt 10 = .ok (.goto 7, 3) := by decide +kernel
theorem dL_melt_13 : decode cL_melt 13 = .ok (.astore 4, 2) := by decide +kernel
theorem dL_melt_15 : decode cL_melt 15 = .ok (.iconst 1, 1) := by decide +kernel
theorem dL_melt_16 : decode cL_melt 16 = .ok (.ireturn, 1) := by decide +kernel
theorem dL_melt_17 : decode cL_melt 17 = .ok (.iconst 0, 1) := by decide +kernel
theorem dL_melt_18 : decode cL_melt 18 = .ok (.ireturn, 1) := by decide +kernel
set_option maxRecDepth 100000 in
set_option maxHeartbeats 4000000 in
theorem hw_melt (l : Launch) (hlt : l.stackTraces = false) (G : kx_G) (x : Nat) (p0 p1 : Int32) (o : Nat) (σ : kx_S) (P : Int32 → kx_S → Prop) (PX : String → kx_S → Prop) (Q : Int32 → kx_S → Prop) (hx : xt σ x = 13) (h : wX11_melt x p0 p1 σ P PX) (hP : ∀ r u, P r u → (xt u o = 21 ∧ 1 ≤ xn u o) ∧ Q 0 (xsal u o (Int32.toNatClampNeg 0) r.toInt64)) (hPX : ∀ E u, PX E u → E = pz_N ∧ Q 1 u) : kx_MH l G yL_melt cL_melt 5 (some .int) [(0, 10, 13, 13)] 8 127 [.ref x, .int p0, .int p1, .ref o] σ (kx_ri Q) := by
  refine kx_enterH (by decide) rfl (Nat.le_of_ble_eq_true rfl) ?_
  intro p e s m below meth c ls F hr hlocks C htab hl
  have hl : lv_has ls 5 [(0, .ref x), (1, .int p0), (2, .int p1), (3, .ref o)] := hl
  obtain ⟨H, eH⟩ : ∃ z9, z9 = s.heap := ⟨_, rfl⟩
  obtain ⟨locs, eL⟩ : ∃ z9 : List Loc, z9 = [] := ⟨_, rfl⟩
  rw [← eH, ← eL] at C
  rw [← eH, ← eL]
  obtain ⟨σ0, e0⟩ : ∃ z9, z9 = σ := ⟨_, rfl⟩
  have C : kx_X G (xc σ0) s H locs σ := by rw [e0]; exact C
  suffices hgo : kx_W p l e 8 127 (xc σ0) s m ([.ref x, .int p0, .int p1, .ref o] : List Value).toArray below meth c H locs σ (vx_MQ below (kx_Q G σ0 (kx_ri Q)) (kx_XC G σ0 (fun _ _ => False)) ([.ref x, .int p0, .int p1, .ref o] : List Value).toArray s (kx_N - xc σ0) (600 * (kx_N - xc σ0)) (kx_A G)) (F0 m 0 ls []) by rw [e0] at hgo; exact hgo
  clear e0
  refine lv_aload_n F.1 F.2.1 dL_melt_0 rfl (lv_at hl 3 rfl) ?_
  refine lv_iconst (v := 0) F.1 F.2.1 dL_melt_1 (by decide) ?_
  refine lv_aload_n F.1 F.2.1 dL_melt_2 rfl (lv_at hl 0 rfl) ?_
  refine lv_iload_n F.1 F.2.1 dL_melt_3 rfl (lv_at hl 1 rfl) ?_
  refine lv_iload_n F.1 F.2.1 dL_melt_4 rfl (lv_at hl 2 rfl) ?_
  refine xk_X11_melt hlt F C x p0 p1 hx h uy_4 (Nat.le_of_ble_eq_true rfl) (Nat.le_of_ble_eq_true rfl) hl.1 (by simp [Value.category]) dL_melt_5 (fun E9 ce9 q9 u H locs h9 C hce hcv hcl => ?_) (fun r u H locs h9 C => ?_)
  · obtain ⟨eE, hq⟩ := hPX E9 u h9
    rw [eE] at hcl
    refine pq_catch F.2.2.2.1 _ htab (by decide) (by decide) (F.2.2.2.2 _ uy_1) (va_any rfl C.2.2.1.2.2.2.1.2.2.2.1.2.2.2.1) hce hcv hcl ?_
    refine lv_astore (lv' := [(4, .ref q9), (0, .ref x), (1, .int p0), (2, .int p1), (3, .ref o)]) F.1 F.2.1 dL_melt_13 hl (by decide) rfl (fun ls hl => ?_)
    refine lv_iconst (v := 1) F.1 F.2.1 dL_melt_15 (by decide) ?_
    refine vx_ret ?_
    exact kx_iret F C hr hlocks hq dL_melt_16
  · obtain ⟨⟨ho, hno⟩, hq⟩ := hP r u h9
    have hin : vp_in 0 (xn u o) := by rw [ki_in, ki_z0]; omega
    refine lv_i2l F.1 F.2.1 dL_melt_8 rfl ?_
    refine kx_last F C ho hin dL_melt_9 (fun H locs C => ?_)
    refine lv_goto (tgt := 17) F.1 F.2.1 dL_melt_10 (by decide) ?_
    refine lv_iconst (v := 0) F.1 F.2.1 dL_melt_17 (by decide) ?_
    refine vx_ret ?_
    exact kx_iret F C hr hlocks hq dL_melt_18
theorem dL_boom_0 : decode cL_boom 0 = .ok (.aload 4, 2) := by decide +kernel
theorem dL_boom_2 : decode cL_boom 2 = .ok (.iconst 0, 1) := by decide +kernel
theorem dL_boom_3 : decode cL_boom 3 = .ok (.aload_n 0, 1) := by decide +kernel
theorem dL_boom_4 : decode cL_boom 4 = .ok (.iload_n 1, 1) := by decide +kernel
theorem dL_boom_5 : decode cL_boom 5 = .ok (.iload_n 2, 1) := by decide +kernel
theorem dL_boom_6 : decode cL_boom 6 = .ok (.iload_n 3, 1) := by decide +kernel
theorem dL_boom_7 : decode cL_boom 7 = .ok (.invokevirtual 22, 3) := by decide +kernel
theorem dL_boom_10 : decode cL_boom 10 = .ok (.ifCond .eq 7, 3) := by decide +kernel
theorem dL_boom_13 : decode cL_boom 13 = .ok (.lconst 1, 1) := by decide +kernel
theorem dL_boom_14 : decode cL_boom 14 = .ok (.goto 4, 3) := by decide +kernel
theorem dL_boom_17 : decode cL_boom 17 = .ok (.lconst 0, 1) := by decide +kernel
theorem dL_boom_18 : decode cL_boom 18 = .ok (.lastore, 1) := by decide +kernel
theorem dL_boom_19 : decode cL_boom 19 = .ok (.goto 7, 3) := by decide +kernel
theorem dL_boom_22 : decode cL_boom 22 = .ok (.astore 5, 2) := by decide +kernel
theorem dL_boom_24 : decode cL_boom 24 = .ok (.iconst 1, 1) := by decide +kernel
theorem dL_boom_25 : decode cL_boom 25 = .ok (.ireturn, 1) := by decide +kernel
theorem dL_boom_26 : decode cL_boom 26 = .ok (.iconst 0, 1) := by decide +kernel
theorem dL_boom_27 : decode cL_boom 27 = .ok (.ireturn, 1) := by decide +kernel
set_option maxRecDepth 100000 in
set_option maxHeartbeats 4000000 in
theorem hw_boom (l : Launch) (hlt : l.stackTraces = false) (G : kx_G) (x : Nat) (p0 p1 p2 : Int32) (o : Nat) (σ : kx_S) (P : Int32 → kx_S → Prop) (PX : String → kx_S → Prop) (Q : Int32 → kx_S → Prop) (hx : xt σ x = 13) (h : wX11_boom x p0 p1 p2 σ P PX) (hP : ∀ r u, P r u → (xt u o = 21 ∧ 1 ≤ xn u o) ∧ Q 0 (xsal u o (Int32.toNatClampNeg 0) (if r = 0 then 0 else 1))) (hPX : ∀ E u, PX E u → E = pz_N ∧ Q 1 u) : kx_MH l G yL_boom cL_boom 6 (some .int) [(0, 19, 22, 13)] 8 127 [.ref x, .int p0, .int p1, .int p2, .ref o] σ (kx_ri Q) := by
  refine kx_enterH (by decide) rfl (Nat.le_of_ble_eq_true rfl) ?_
  intro p e s m below meth c ls F hr hlocks C htab hl
  have hl : lv_has ls 6 [(0, .ref x), (1, .int p0), (2, .int p1), (3, .int p2), (4, .ref o)] := hl
  obtain ⟨H, eH⟩ : ∃ z9, z9 = s.heap := ⟨_, rfl⟩
  obtain ⟨locs, eL⟩ : ∃ z9 : List Loc, z9 = [] := ⟨_, rfl⟩
  rw [← eH, ← eL] at C
  rw [← eH, ← eL]
  obtain ⟨σ0, e0⟩ : ∃ z9, z9 = σ := ⟨_, rfl⟩
  have C : kx_X G (xc σ0) s H locs σ := by rw [e0]; exact C
  suffices hgo : kx_W p l e 8 127 (xc σ0) s m ([.ref x, .int p0, .int p1, .int p2, .ref o] : List Value).toArray below meth c H locs σ (vx_MQ below (kx_Q G σ0 (kx_ri Q)) (kx_XC G σ0 (fun _ _ => False)) ([.ref x, .int p0, .int p1, .int p2, .ref o] : List Value).toArray s (kx_N - xc σ0) (600 * (kx_N - xc σ0)) (kx_A G)) (F0 m 0 ls []) by rw [e0] at hgo; exact hgo
  clear e0
  refine lv_aload F.1 F.2.1 dL_boom_0 (lv_at hl 4 rfl) ?_
  refine lv_iconst (v := 0) F.1 F.2.1 dL_boom_2 (by decide) ?_
  refine lv_aload_n F.1 F.2.1 dL_boom_3 rfl (lv_at hl 0 rfl) ?_
  refine lv_iload_n F.1 F.2.1 dL_boom_4 rfl (lv_at hl 1 rfl) ?_
  refine lv_iload_n F.1 F.2.1 dL_boom_5 rfl (lv_at hl 2 rfl) ?_
  refine lv_iload_n F.1 F.2.1 dL_boom_6 rfl (lv_at hl 3 rfl) ?_
  refine xk_X11_boom hlt F C x p0 p1 p2 hx h uy_5 (Nat.le_of_ble_eq_true rfl) (Nat.le_of_ble_eq_true rfl) hl.1 (by simp [Value.category]) dL_boom_7 (fun E9 ce9 q9 u H locs h9 C hce hcv hcl => ?_) (fun r u H locs h9 C => ?_)
  · obtain ⟨eE, hq⟩ := hPX E9 u h9
    rw [eE] at hcl
    refine pq_catch F.2.2.2.1 _ htab (by decide) (by decide) (F.2.2.2.2 _ uy_1) (va_any rfl C.2.2.1.2.2.2.1.2.2.2.1.2.2.2.1) hce hcv hcl ?_
    refine lv_astore (lv' := [(5, .ref q9), (0, .ref x), (1, .int p0), (2, .int p1), (3, .int p2), (4, .ref o)]) F.1 F.2.1 dL_boom_22 hl (by decide) rfl (fun ls hl => ?_)
    refine lv_iconst (v := 1) F.1 F.2.1 dL_boom_24 (by decide) ?_
    refine vx_ret ?_
    exact kx_iret F C hr hlocks hq dL_boom_25
  · obtain ⟨⟨ho, hno⟩, hq⟩ := hP r u h9
    have hin : vp_in 0 (xn u o) := by rw [ki_in, ki_z0]; omega
    refine lv_if_eq (tgt := 17) F.1 F.2.1 dL_boom_10 (by decide) (fun c9 => ?_) (fun c9 => ?_)
    · refine lv_lconst (v := 0) F.1 F.2.1 dL_boom_17 (by decide) ?_
      refine kx_last F C ho hin dL_boom_18 (fun H locs C => ?_)
      refine lv_goto (tgt := 26) F.1 F.2.1 dL_boom_19 (by decide) ?_
      refine lv_iconst (v := 0) F.1 F.2.1 dL_boom_26 (by decide) ?_
      refine vx_ret ?_
      exact kx_iret F C hr hlocks (by rw [if_pos c9] at hq; exact hq) dL_boom_27
    · refine lv_lconst (v := 1) F.1 F.2.1 dL_boom_13 (by decide) ?_
      refine lv_goto (tgt := 18) F.1 F.2.1 dL_boom_14 (by decide) ?_
      refine kx_last F C ho hin dL_boom_18 (fun H locs C => ?_)
      refine lv_goto (tgt := 26) F.1 F.2.1 dL_boom_19 (by decide) ?_
      refine lv_iconst (v := 0) F.1 F.2.1 dL_boom_26 (by decide) ?_
      refine vx_ret ?_
      exact kx_iret F C hr hlocks (by rw [if_neg c9] at hq; exact hq) dL_boom_27
theorem dL_watch_0 : decode cL_watch 0 = .ok (.aload_n 3, 1) := by decide +kernel
theorem dL_watch_1 : decode cL_watch 1 = .ok (.iconst 0, 1) := by decide +kernel
theorem dL_watch_2 : decode cL_watch 2 = .ok (.aload_n 0, 1) := by decide +kernel
theorem dL_watch_3 : decode cL_watch 3 = .ok (.iload_n 1, 1) := by decide +kernel
theorem dL_watch_4 : decode cL_watch 4 = .ok (.iload_n 2, 1) := by decide +kernel
theorem dL_watch_5 : decode cL_watch 5 = .ok (.invokevirtual 26, 3) := by decide +kernel
theorem dL_watch_8 : decode cL_watch 8 = .ok (.ifCond .eq 7, 3) := by decide +kernel
theorem dL_watch_11 : decode cL_watch 11 = .ok (.lconst 1, 1) := by decide +kernel
theorem dL_watch_12 : decode cL_watch 12 = .ok (.goto 4, 3) := by decide +kernel
theorem dL_watch_15 : decode cL_watch 15 = .ok (.lconst 0, 1) := by decide +kernel
theorem dL_watch_16 : decode cL_watch 16 = .ok (.lastore, 1) := by decide +kernel
theorem dL_watch_17 : decode cL_watch 17 = .ok (.goto 7, 3) := by decide +kernel
theorem dL_watch_20 : decode cL_watch 20 = .ok (.astore 4, 2) := by decide +kernel
theorem dL_watch_22 : decode cL_watch 22 = .ok (.iconst 1, 1) := by decide +kernel
theorem dL_watch_23 : decode cL_watch 23 = .ok (.ireturn, 1) := by decide +kernel
theorem dL_watch_24 : decode cL_watch 24 = .ok (.iconst 0, 1) := by decide +kernel
theorem dL_watch_25 : decode cL_watch 25 = .ok (.ireturn, 1) := by decide +kernel
set_option maxRecDepth 100000 in
set_option maxHeartbeats 4000000 in
theorem hw_watch (l : Launch) (hlt : l.stackTraces = false) (G : kx_G) (x : Nat) (p0 p1 : Int32) (o : Nat) (σ : kx_S) (P : Int32 → kx_S → Prop) (PX : String → kx_S → Prop) (Q : Int32 → kx_S → Prop) (hx : xt σ x = 13) (h : wX11_watch x p0 p1 σ P PX) (hP : ∀ r u, P r u → (xt u o = 21 ∧ 1 ≤ xn u o) ∧ Q 0 (xsal u o (Int32.toNatClampNeg 0) (if r = 0 then 0 else 1))) (hPX : ∀ E u, PX E u → E = pz_N ∧ Q 1 u) : kx_MH l G yL_watch cL_watch 5 (some .int) [(0, 17, 20, 13)] 8 127 [.ref x, .int p0, .int p1, .ref o] σ (kx_ri Q) := by
  refine kx_enterH (by decide) rfl (Nat.le_of_ble_eq_true rfl) ?_
  intro p e s m below meth c ls F hr hlocks C htab hl
  have hl : lv_has ls 5 [(0, .ref x), (1, .int p0), (2, .int p1), (3, .ref o)] := hl
  obtain ⟨H, eH⟩ : ∃ z9, z9 = s.heap := ⟨_, rfl⟩
  obtain ⟨locs, eL⟩ : ∃ z9 : List Loc, z9 = [] := ⟨_, rfl⟩
  rw [← eH, ← eL] at C
  rw [← eH, ← eL]
  obtain ⟨σ0, e0⟩ : ∃ z9, z9 = σ := ⟨_, rfl⟩
  have C : kx_X G (xc σ0) s H locs σ := by rw [e0]; exact C
  suffices hgo : kx_W p l e 8 127 (xc σ0) s m ([.ref x, .int p0, .int p1, .ref o] : List Value).toArray below meth c H locs σ (vx_MQ below (kx_Q G σ0 (kx_ri Q)) (kx_XC G σ0 (fun _ _ => False)) ([.ref x, .int p0, .int p1, .ref o] : List Value).toArray s (kx_N - xc σ0) (600 * (kx_N - xc σ0)) (kx_A G)) (F0 m 0 ls []) by rw [e0] at hgo; exact hgo
  clear e0
  refine lv_aload_n F.1 F.2.1 dL_watch_0 rfl (lv_at hl 3 rfl) ?_
  refine lv_iconst (v := 0) F.1 F.2.1 dL_watch_1 (by decide) ?_
  refine lv_aload_n F.1 F.2.1 dL_watch_2 rfl (lv_at hl 0 rfl) ?_
  refine lv_iload_n F.1 F.2.1 dL_watch_3 rfl (lv_at hl 1 rfl) ?_
  refine lv_iload_n F.1 F.2.1 dL_watch_4 rfl (lv_at hl 2 rfl) ?_
  refine xk_X11_watch hlt F C x p0 p1 hx h uy_6 (Nat.le_of_ble_eq_true rfl) (Nat.le_of_ble_eq_true rfl) hl.1 (by simp [Value.category]) dL_watch_5 (fun E9 ce9 q9 u H locs h9 C hce hcv hcl => ?_) (fun r u H locs h9 C => ?_)
  · obtain ⟨eE, hq⟩ := hPX E9 u h9
    rw [eE] at hcl
    refine pq_catch F.2.2.2.1 _ htab (by decide) (by decide) (F.2.2.2.2 _ uy_1) (va_any rfl C.2.2.1.2.2.2.1.2.2.2.1.2.2.2.1) hce hcv hcl ?_
    refine lv_astore (lv' := [(4, .ref q9), (0, .ref x), (1, .int p0), (2, .int p1), (3, .ref o)]) F.1 F.2.1 dL_watch_20 hl (by decide) rfl (fun ls hl => ?_)
    refine lv_iconst (v := 1) F.1 F.2.1 dL_watch_22 (by decide) ?_
    refine vx_ret ?_
    exact kx_iret F C hr hlocks hq dL_watch_23
  · obtain ⟨⟨ho, hno⟩, hq⟩ := hP r u h9
    have hin : vp_in 0 (xn u o) := by rw [ki_in, ki_z0]; omega
    refine lv_if_eq (tgt := 15) F.1 F.2.1 dL_watch_8 (by decide) (fun c9 => ?_) (fun c9 => ?_)
    · refine lv_lconst (v := 0) F.1 F.2.1 dL_watch_15 (by decide) ?_
      refine kx_last F C ho hin dL_watch_16 (fun H locs C => ?_)
      refine lv_goto (tgt := 24) F.1 F.2.1 dL_watch_17 (by decide) ?_
      refine lv_iconst (v := 0) F.1 F.2.1 dL_watch_24 (by decide) ?_
      refine vx_ret ?_
      exact kx_iret F C hr hlocks (by rw [if_pos c9] at hq; exact hq) dL_watch_25
    · refine lv_lconst (v := 1) F.1 F.2.1 dL_watch_11 (by decide) ?_
      refine lv_goto (tgt := 16) F.1 F.2.1 dL_watch_12 (by decide) ?_
      refine kx_last F C ho hin dL_watch_16 (fun H locs C => ?_)
      refine lv_goto (tgt := 24) F.1 F.2.1 dL_watch_17 (by decide) ?_
      refine lv_iconst (v := 0) F.1 F.2.1 dL_watch_24 (by decide) ?_
      refine vx_ret ?_
      exact kx_iret F C hr hlocks (by rw [if_neg c9] at hq; exact hq) dL_watch_25
theorem dL_crew_0 : decode cL_crew 0 = .ok (.aload_n 3, 1) := by decide +kernel
theorem dL_crew_1 : decode cL_crew 1 = .ok (.iconst 0, 1) := by decide +kernel
theorem dL_crew_2 : decode cL_crew 2 = .ok (.aload_n 0, 1) := by decide +kernel
theorem dL_crew_3 : decode cL_crew 3 = .ok (.iload_n 1, 1) := by decide +kernel
theorem dL_crew_4 : decode cL_crew 4 = .ok (.iload_n 2, 1) := by decide +kernel
theorem dL_crew_5 : decode cL_crew 5 = .ok (.invokevirtual 30, 3) := by decide +kernel
theorem dL_crew_8 : decode cL_crew 8 = .ok (.i2l, 1) := by decide +kernel
theorem dL_crew_9 : decode cL_crew 9 = .ok (.lastore, 1) := by decide +kernel
theorem dL_crew_10 : decode cL_crew 10 = .ok (.goto 7, 3) := by decide +kernel
theorem dL_crew_13 : decode cL_crew 13 = .ok (.astore 4, 2) := by decide +kernel
theorem dL_crew_15 : decode cL_crew 15 = .ok (.iconst 1, 1) := by decide +kernel
theorem dL_crew_16 : decode cL_crew 16 = .ok (.ireturn, 1) := by decide +kernel
theorem dL_crew_17 : decode cL_crew 17 = .ok (.iconst 0, 1) := by decide +kernel
theorem dL_crew_18 : decode cL_crew 18 = .ok (.ireturn, 1) := by decide +kernel
set_option maxRecDepth 100000 in
set_option maxHeartbeats 4000000 in
theorem hw_crew (l : Launch) (hlt : l.stackTraces = false) (G : kx_G) (x : Nat) (p0 p1 : Int32) (o : Nat) (σ : kx_S) (P : Int32 → kx_S → Prop) (PX : String → kx_S → Prop) (Q : Int32 → kx_S → Prop) (hx : xt σ x = 13) (h : wX11_crew x p0 p1 σ P PX) (hP : ∀ r u, P r u → (xt u o = 21 ∧ 1 ≤ xn u o) ∧ Q 0 (xsal u o (Int32.toNatClampNeg 0) r.toInt64)) (hPX : ∀ E u, PX E u → E = pz_N ∧ Q 1 u) : kx_MH l G yL_crew cL_crew 5 (some .int) [(0, 10, 13, 13)] 9 276 [.ref x, .int p0, .int p1, .ref o] σ (kx_ri Q) := by
  refine kx_enterH (by decide) rfl (Nat.le_of_ble_eq_true rfl) ?_
  intro p e s m below meth c ls F hr hlocks C htab hl
  have hl : lv_has ls 5 [(0, .ref x), (1, .int p0), (2, .int p1), (3, .ref o)] := hl
  obtain ⟨H, eH⟩ : ∃ z9, z9 = s.heap := ⟨_, rfl⟩
  obtain ⟨locs, eL⟩ : ∃ z9 : List Loc, z9 = [] := ⟨_, rfl⟩
  rw [← eH, ← eL] at C
  rw [← eH, ← eL]
  obtain ⟨σ0, e0⟩ : ∃ z9, z9 = σ := ⟨_, rfl⟩
  have C : kx_X G (xc σ0) s H locs σ := by rw [e0]; exact C
  suffices hgo : kx_W p l e 9 276 (xc σ0) s m ([.ref x, .int p0, .int p1, .ref o] : List Value).toArray below meth c H locs σ (vx_MQ below (kx_Q G σ0 (kx_ri Q)) (kx_XC G σ0 (fun _ _ => False)) ([.ref x, .int p0, .int p1, .ref o] : List Value).toArray s (kx_N - xc σ0) (600 * (kx_N - xc σ0)) (kx_A G)) (F0 m 0 ls []) by rw [e0] at hgo; exact hgo
  clear e0
  refine lv_aload_n F.1 F.2.1 dL_crew_0 rfl (lv_at hl 3 rfl) ?_
  refine lv_iconst (v := 0) F.1 F.2.1 dL_crew_1 (by decide) ?_
  refine lv_aload_n F.1 F.2.1 dL_crew_2 rfl (lv_at hl 0 rfl) ?_
  refine lv_iload_n F.1 F.2.1 dL_crew_3 rfl (lv_at hl 1 rfl) ?_
  refine lv_iload_n F.1 F.2.1 dL_crew_4 rfl (lv_at hl 2 rfl) ?_
  refine xk_X11_crew hlt F C x p0 p1 hx h uy_7 (Nat.le_of_ble_eq_true rfl) (Nat.le_of_ble_eq_true rfl) hl.1 (by simp [Value.category]) dL_crew_5 (fun E9 ce9 q9 u H locs h9 C hce hcv hcl => ?_) (fun r u H locs h9 C => ?_)
  · obtain ⟨eE, hq⟩ := hPX E9 u h9
    rw [eE] at hcl
    refine pq_catch F.2.2.2.1 _ htab (by decide) (by decide) (F.2.2.2.2 _ uy_1) (va_any rfl C.2.2.1.2.2.2.1.2.2.2.1.2.2.2.1) hce hcv hcl ?_
    refine lv_astore (lv' := [(4, .ref q9), (0, .ref x), (1, .int p0), (2, .int p1), (3, .ref o)]) F.1 F.2.1 dL_crew_13 hl (by decide) rfl (fun ls hl => ?_)
    refine lv_iconst (v := 1) F.1 F.2.1 dL_crew_15 (by decide) ?_
    refine vx_ret ?_
    exact kx_iret F C hr hlocks hq dL_crew_16
  · obtain ⟨⟨ho, hno⟩, hq⟩ := hP r u h9
    have hin : vp_in 0 (xn u o) := by rw [ki_in, ki_z0]; omega
    refine lv_i2l F.1 F.2.1 dL_crew_8 rfl ?_
    refine kx_last F C ho hin dL_crew_9 (fun H locs C => ?_)
    refine lv_goto (tgt := 17) F.1 F.2.1 dL_crew_10 (by decide) ?_
    refine lv_iconst (v := 0) F.1 F.2.1 dL_crew_17 (by decide) ?_
    refine vx_ret ?_
    exact kx_iret F C hr hlocks hq dL_crew_18
theorem dL_law_0 : decode cL_law 0 = .ok (.aload_n 3, 1) := by decide +kernel
theorem dL_law_1 : decode cL_law 1 = .ok (.iconst 0, 1) := by decide +kernel
theorem dL_law_2 : decode cL_law 2 = .ok (.aload_n 0, 1) := by decide +kernel
theorem dL_law_3 : decode cL_law 3 = .ok (.iload_n 1, 1) := by decide +kernel
theorem dL_law_4 : decode cL_law 4 = .ok (.iload_n 2, 1) := by decide +kernel
theorem dL_law_5 : decode cL_law 5 = .ok (.invokevirtual 33, 3) := by decide +kernel
theorem dL_law_8 : decode cL_law 8 = .ok (.i2l, 1) := by decide +kernel
theorem dL_law_9 : decode cL_law 9 = .ok (.lastore, 1) := by decide +kernel
theorem dL_law_10 : decode cL_law 10 = .ok (.goto 7, 3) := by decide +kernel
theorem dL_law_13 : decode cL_law 13 = .ok (.astore 4, 2) := by decide +kernel
theorem dL_law_15 : decode cL_law 15 = .ok (.iconst 1, 1) := by decide +kernel
theorem dL_law_16 : decode cL_law 16 = .ok (.ireturn, 1) := by decide +kernel
theorem dL_law_17 : decode cL_law 17 = .ok (.iconst 0, 1) := by decide +kernel
theorem dL_law_18 : decode cL_law 18 = .ok (.ireturn, 1) := by decide +kernel
set_option maxRecDepth 100000 in
set_option maxHeartbeats 4000000 in
theorem hw_law (l : Launch) (hlt : l.stackTraces = false) (G : kx_G) (x : Nat) (p0 p1 : Int32) (o : Nat) (σ : kx_S) (P : Int32 → kx_S → Prop) (PX : String → kx_S → Prop) (Q : Int32 → kx_S → Prop) (hx : xt σ x = 13) (h : wX11_law x p0 p1 σ P PX) (hP : ∀ r u, P r u → (xt u o = 21 ∧ 1 ≤ xn u o) ∧ Q 0 (xsal u o (Int32.toNatClampNeg 0) r.toInt64)) (hPX : ∀ E u, PX E u → E = pz_I ∧ Q 1 u) : kx_MH l G yL_law cL_law 5 (some .int) [(0, 10, 13, 36)] 114 2469 [.ref x, .int p0, .int p1, .ref o] σ (kx_ri Q) := by
  refine kx_enterH (by decide) rfl (Nat.le_of_ble_eq_true rfl) ?_
  intro p e s m below meth c ls F hr hlocks C htab hl
  have hl : lv_has ls 5 [(0, .ref x), (1, .int p0), (2, .int p1), (3, .ref o)] := hl
  obtain ⟨H, eH⟩ : ∃ z9, z9 = s.heap := ⟨_, rfl⟩
  obtain ⟨locs, eL⟩ : ∃ z9 : List Loc, z9 = [] := ⟨_, rfl⟩
  rw [← eH, ← eL] at C
  rw [← eH, ← eL]
  obtain ⟨σ0, e0⟩ : ∃ z9, z9 = σ := ⟨_, rfl⟩
  have C : kx_X G (xc σ0) s H locs σ := by rw [e0]; exact C
  suffices hgo : kx_W p l e 114 2469 (xc σ0) s m ([.ref x, .int p0, .int p1, .ref o] : List Value).toArray below meth c H locs σ (vx_MQ below (kx_Q G σ0 (kx_ri Q)) (kx_XC G σ0 (fun _ _ => False)) ([.ref x, .int p0, .int p1, .ref o] : List Value).toArray s (kx_N - xc σ0) (600 * (kx_N - xc σ0)) (kx_A G)) (F0 m 0 ls []) by rw [e0] at hgo; exact hgo
  clear e0
  refine lv_aload_n F.1 F.2.1 dL_law_0 rfl (lv_at hl 3 rfl) ?_
  refine lv_iconst (v := 0) F.1 F.2.1 dL_law_1 (by decide) ?_
  refine lv_aload_n F.1 F.2.1 dL_law_2 rfl (lv_at hl 0 rfl) ?_
  refine lv_iload_n F.1 F.2.1 dL_law_3 rfl (lv_at hl 1 rfl) ?_
  refine lv_iload_n F.1 F.2.1 dL_law_4 rfl (lv_at hl 2 rfl) ?_
  refine xk_X11_law hlt F C x p0 p1 hx h uy_9 (Nat.le_of_ble_eq_true rfl) (Nat.le_of_ble_eq_true rfl) hl.1 (by simp [Value.category]) dL_law_5 (fun E9 ce9 q9 u H locs h9 C hce hcv hcl => ?_) (fun r u H locs h9 C => ?_)
  · obtain ⟨eE, hq⟩ := hPX E9 u h9
    rw [eE] at hcl
    refine pq_catch F.2.2.2.1 _ htab (by decide) (by decide) (F.2.2.2.2 _ uy_8) (va_any rfl C.2.2.1.2.2.2.1.2.2.2.1.2.2.2.2) hce hcv hcl ?_
    refine lv_astore (lv' := [(4, .ref q9), (0, .ref x), (1, .int p0), (2, .int p1), (3, .ref o)]) F.1 F.2.1 dL_law_13 hl (by decide) rfl (fun ls hl => ?_)
    refine lv_iconst (v := 1) F.1 F.2.1 dL_law_15 (by decide) ?_
    refine vx_ret ?_
    exact kx_iret F C hr hlocks hq dL_law_16
  · obtain ⟨⟨ho, hno⟩, hq⟩ := hP r u h9
    have hin : vp_in 0 (xn u o) := by rw [ki_in, ki_z0]; omega
    refine lv_i2l F.1 F.2.1 dL_law_8 rfl ?_
    refine kx_last F C ho hin dL_law_9 (fun H locs C => ?_)
    refine lv_goto (tgt := 17) F.1 F.2.1 dL_law_10 (by decide) ?_
    refine lv_iconst (v := 0) F.1 F.2.1 dL_law_17 (by decide) ?_
    refine vx_ret ?_
    exact kx_iret F C hr hlocks hq dL_law_18
theorem dL_let_0 : decode cL_let 0 = .ok (.aload 4, 2) := by decide +kernel
theorem dL_let_2 : decode cL_let 2 = .ok (.iconst 0, 1) := by decide +kernel
theorem dL_let_3 : decode cL_let 3 = .ok (.aload_n 0, 1) := by decide +kernel
theorem dL_let_4 : decode cL_let 4 = .ok (.iload_n 1, 1) := by decide +kernel
theorem dL_let_5 : decode cL_let 5 = .ok (.iload_n 2, 1) := by decide +kernel
theorem dL_let_6 : decode cL_let 6 = .ok (.iload_n 3, 1) := by decide +kernel
theorem dL_let_7 : decode cL_let 7 = .ok (.invokevirtual 38, 3) := by decide +kernel
theorem dL_let_10 : decode cL_let 10 = .ok (.i2l, 1) := by decide +kernel
theorem dL_let_11 : decode cL_let 11 = .ok (.lastore, 1) := by decide +kernel
theorem dL_let_12 : decode cL_let 12 = .ok (.goto 7, 3) := by decide +kernel
theorem dL_let_15 : decode cL_let 15 = .ok (.astore 5, 2) := by decide +kernel
theorem dL_let_17 : decode cL_let 17 = .ok (.iconst 1, 1) := by decide +kernel
theorem dL_let_18 : decode cL_let 18 = .ok (.ireturn, 1) := by decide +kernel
theorem dL_let_19 : decode cL_let 19 = .ok (.iconst 0, 1) := by decide +kernel
theorem dL_let_20 : decode cL_let 20 = .ok (.ireturn, 1) := by decide +kernel
set_option maxRecDepth 100000 in
set_option maxHeartbeats 4000000 in
theorem hw_let (l : Launch) (hlt : l.stackTraces = false) (G : kx_G) (x : Nat) (p0 p1 p2 : Int32) (o : Nat) (σ : kx_S) (P : Int32 → kx_S → Prop) (PX : String → kx_S → Prop) (Q : Int32 → kx_S → Prop) (hx : xt σ x = 13) (h : wX11_let x p0 p1 p2 σ P PX) (hP : ∀ r u, P r u → (xt u o = 21 ∧ 1 ≤ xn u o) ∧ Q 0 (xsal u o (Int32.toNatClampNeg 0) r.toInt64)) (hPX : ∀ E u, PX E u → E = pz_N ∧ Q 1 u) : kx_MH l G yL_let cL_let 6 (some .int) [(0, 12, 15, 13)] 9 278 [.ref x, .int p0, .int p1, .int p2, .ref o] σ (kx_ri Q) := by
  refine kx_enterH (by decide) rfl (Nat.le_of_ble_eq_true rfl) ?_
  intro p e s m below meth c ls F hr hlocks C htab hl
  have hl : lv_has ls 6 [(0, .ref x), (1, .int p0), (2, .int p1), (3, .int p2), (4, .ref o)] := hl
  obtain ⟨H, eH⟩ : ∃ z9, z9 = s.heap := ⟨_, rfl⟩
  obtain ⟨locs, eL⟩ : ∃ z9 : List Loc, z9 = [] := ⟨_, rfl⟩
  rw [← eH, ← eL] at C
  rw [← eH, ← eL]
  obtain ⟨σ0, e0⟩ : ∃ z9, z9 = σ := ⟨_, rfl⟩
  have C : kx_X G (xc σ0) s H locs σ := by rw [e0]; exact C
  suffices hgo : kx_W p l e 9 278 (xc σ0) s m ([.ref x, .int p0, .int p1, .int p2, .ref o] : List Value).toArray below meth c H locs σ (vx_MQ below (kx_Q G σ0 (kx_ri Q)) (kx_XC G σ0 (fun _ _ => False)) ([.ref x, .int p0, .int p1, .int p2, .ref o] : List Value).toArray s (kx_N - xc σ0) (600 * (kx_N - xc σ0)) (kx_A G)) (F0 m 0 ls []) by rw [e0] at hgo; exact hgo
  clear e0
  refine lv_aload F.1 F.2.1 dL_let_0 (lv_at hl 4 rfl) ?_
  refine lv_iconst (v := 0) F.1 F.2.1 dL_let_2 (by decide) ?_
  refine lv_aload_n F.1 F.2.1 dL_let_3 rfl (lv_at hl 0 rfl) ?_
  refine lv_iload_n F.1 F.2.1 dL_let_4 rfl (lv_at hl 1 rfl) ?_
  refine lv_iload_n F.1 F.2.1 dL_let_5 rfl (lv_at hl 2 rfl) ?_
  refine lv_iload_n F.1 F.2.1 dL_let_6 rfl (lv_at hl 3 rfl) ?_
  refine xk_X11_let hlt F C x p0 p1 p2 hx h uy_10 (Nat.le_of_ble_eq_true rfl) (Nat.le_of_ble_eq_true rfl) hl.1 (by simp [Value.category]) dL_let_7 (fun E9 ce9 q9 u H locs h9 C hce hcv hcl => ?_) (fun r u H locs h9 C => ?_)
  · obtain ⟨eE, hq⟩ := hPX E9 u h9
    rw [eE] at hcl
    refine pq_catch F.2.2.2.1 _ htab (by decide) (by decide) (F.2.2.2.2 _ uy_1) (va_any rfl C.2.2.1.2.2.2.1.2.2.2.1.2.2.2.1) hce hcv hcl ?_
    refine lv_astore (lv' := [(5, .ref q9), (0, .ref x), (1, .int p0), (2, .int p1), (3, .int p2), (4, .ref o)]) F.1 F.2.1 dL_let_15 hl (by decide) rfl (fun ls hl => ?_)
    refine lv_iconst (v := 1) F.1 F.2.1 dL_let_17 (by decide) ?_
    refine vx_ret ?_
    exact kx_iret F C hr hlocks hq dL_let_18
  · obtain ⟨⟨ho, hno⟩, hq⟩ := hP r u h9
    have hin : vp_in 0 (xn u o) := by rw [ki_in, ki_z0]; omega
    refine lv_i2l F.1 F.2.1 dL_let_10 rfl ?_
    refine kx_last F C ho hin dL_let_11 (fun H locs C => ?_)
    refine lv_goto (tgt := 19) F.1 F.2.1 dL_let_12 (by decide) ?_
    refine lv_iconst (v := 0) F.1 F.2.1 dL_let_19 (by decide) ?_
    refine vx_ret ?_
    exact kx_iret F C hr hlocks hq dL_let_20
theorem dL_hours_0 : decode cL_hours 0 = .ok (.aload_n 2, 1) := by decide +kernel
theorem dL_hours_1 : decode cL_hours 1 = .ok (.iconst 0, 1) := by decide +kernel
theorem dL_hours_2 : decode cL_hours 2 = .ok (.aload_n 0, 1) := by decide +kernel
theorem dL_hours_3 : decode cL_hours 3 = .ok (.iload_n 1, 1) := by decide +kernel
theorem dL_hours_4 : decode cL_hours 4 = .ok (.invokevirtual 42, 3) := by decide +kernel
theorem dL_hours_7 : decode cL_hours 7 = .ok (.i2l, 1) := by decide +kernel
theorem dL_hours_8 : decode cL_hours 8 = .ok (.lastore, 1) := by decide +kernel
theorem dL_hours_9 : decode cL_hours 9 = .ok (.goto 6, 3) := by decide +kernel
theorem dL_hours_12 : decode cL_hours 12 = .ok (.astore_n 3, 1) := by decide +kernel
theorem dL_hours_13 : decode cL_hours 13 = .ok (.iconst 1, 1) := by decide +kernel
theorem dL_hours_14 : decode cL_hours 14 = .ok (.ireturn, 1) := by decide +kernel
theorem dL_hours_15 : decode cL_hours 15 = .ok (.iconst 0, 1) := by decide +kernel
theorem dL_hours_16 : decode cL_hours 16 = .ok (.ireturn, 1) := by decide +kernel
set_option maxRecDepth 100000 in
set_option maxHeartbeats 4000000 in
theorem hw_hours (l : Launch) (hlt : l.stackTraces = false) (G : kx_G) (x : Nat) (p0 : Int32) (o : Nat) (σ : kx_S) (P : Int32 → kx_S → Prop) (PX : String → kx_S → Prop) (Q : Int32 → kx_S → Prop) (hx : xt σ x = 13) (h : wX11_hours x p0 σ P PX) (hP : ∀ r u, P r u → (xt u o = 21 ∧ 1 ≤ xn u o) ∧ Q 0 (xsal u o (Int32.toNatClampNeg 0) r.toInt64)) (hPX : ∀ E u, PX E u → E = pz_I ∧ Q 1 u) : kx_MH l G yL_hours cL_hours 4 (some .int) [(0, 9, 12, 36)] 13 373 [.ref x, .int p0, .ref o] σ (kx_ri Q) := by
  refine kx_enterH (by decide) rfl (Nat.le_of_ble_eq_true rfl) ?_
  intro p e s m below meth c ls F hr hlocks C htab hl
  have hl : lv_has ls 4 [(0, .ref x), (1, .int p0), (2, .ref o)] := hl
  obtain ⟨H, eH⟩ : ∃ z9, z9 = s.heap := ⟨_, rfl⟩
  obtain ⟨locs, eL⟩ : ∃ z9 : List Loc, z9 = [] := ⟨_, rfl⟩
  rw [← eH, ← eL] at C
  rw [← eH, ← eL]
  obtain ⟨σ0, e0⟩ : ∃ z9, z9 = σ := ⟨_, rfl⟩
  have C : kx_X G (xc σ0) s H locs σ := by rw [e0]; exact C
  suffices hgo : kx_W p l e 13 373 (xc σ0) s m ([.ref x, .int p0, .ref o] : List Value).toArray below meth c H locs σ (vx_MQ below (kx_Q G σ0 (kx_ri Q)) (kx_XC G σ0 (fun _ _ => False)) ([.ref x, .int p0, .ref o] : List Value).toArray s (kx_N - xc σ0) (600 * (kx_N - xc σ0)) (kx_A G)) (F0 m 0 ls []) by rw [e0] at hgo; exact hgo
  clear e0
  refine lv_aload_n F.1 F.2.1 dL_hours_0 rfl (lv_at hl 2 rfl) ?_
  refine lv_iconst (v := 0) F.1 F.2.1 dL_hours_1 (by decide) ?_
  refine lv_aload_n F.1 F.2.1 dL_hours_2 rfl (lv_at hl 0 rfl) ?_
  refine lv_iload_n F.1 F.2.1 dL_hours_3 rfl (lv_at hl 1 rfl) ?_
  refine xk_X11_hours hlt F C x p0 hx h uy_11 (Nat.le_of_ble_eq_true rfl) (Nat.le_of_ble_eq_true rfl) hl.1 (by simp [Value.category]) dL_hours_4 (fun E9 ce9 q9 u H locs h9 C hce hcv hcl => ?_) (fun r u H locs h9 C => ?_)
  · obtain ⟨eE, hq⟩ := hPX E9 u h9
    rw [eE] at hcl
    refine pq_catch F.2.2.2.1 _ htab (by decide) (by decide) (F.2.2.2.2 _ uy_8) (va_any rfl C.2.2.1.2.2.2.1.2.2.2.1.2.2.2.2) hce hcv hcl ?_
    refine lv_astore_n (lv' := [(3, .ref q9), (0, .ref x), (1, .int p0), (2, .ref o)]) F.1 F.2.1 dL_hours_12 rfl hl (by decide) rfl (fun ls hl => ?_)
    refine lv_iconst (v := 1) F.1 F.2.1 dL_hours_13 (by decide) ?_
    refine vx_ret ?_
    exact kx_iret F C hr hlocks hq dL_hours_14
  · obtain ⟨⟨ho, hno⟩, hq⟩ := hP r u h9
    have hin : vp_in 0 (xn u o) := by rw [ki_in, ki_z0]; omega
    refine lv_i2l F.1 F.2.1 dL_hours_7 rfl ?_
    refine kx_last F C ho hin dL_hours_8 (fun H locs C => ?_)
    refine lv_goto (tgt := 15) F.1 F.2.1 dL_hours_9 (by decide) ?_
    refine lv_iconst (v := 0) F.1 F.2.1 dL_hours_15 (by decide) ?_
    refine vx_ret ?_
    exact kx_iret F C hr hlocks hq dL_hours_16
theorem dL_order_0 : decode cL_order 0 = .ok (.aload 5, 2) := by decide +kernel
theorem dL_order_2 : decode cL_order 2 = .ok (.iconst 0, 1) := by decide +kernel
theorem dL_order_3 : decode cL_order 3 = .ok (.aload_n 0, 1) := by decide +kernel
theorem dL_order_4 : decode cL_order 4 = .ok (.iload_n 1, 1) := by decide +kernel
theorem dL_order_5 : decode cL_order 5 = .ok (.iload_n 2, 1) := by decide +kernel
theorem dL_order_6 : decode cL_order 6 = .ok (.iload_n 3, 1) := by decide +kernel
theorem dL_order_7 : decode cL_order 7 = .ok (.iload 4, 2) := by decide +kernel
theorem dL_order_9 : decode cL_order 9 = .ok (.invokevirtual 46, 3) := by decide +kernel
theorem dL_order_12 : decode cL_order 12 = .ok (.i2l, 1) := by decide +kernel
theorem dL_order_13 : decode cL_order 13 = .ok (.lastore, 1) := by decide +kernel
theorem dL_order_14 : decode cL_order 14 = .ok (.goto 7, 3) := by decide +kernel
theorem dL_order_17 : decode cL_order 17 = .ok (.astore 6, 2) := by decide +kernel
theorem dL_order_19 : decode cL_order 19 = .ok (.iconst 1, 1) := by decide +kernel
theorem dL_order_20 : decode cL_order 20 = .ok (.ireturn, 1) := by decide +kernel
theorem dL_order_21 : decode cL_order 21 = .ok (.iconst 0, 1) := by decide +kernel
theorem dL_order_22 : decode cL_order 22 = .ok (.ireturn, 1) := by decide +kernel
set_option maxRecDepth 100000 in
set_option maxHeartbeats 4000000 in
theorem hw_order (l : Launch) (hlt : l.stackTraces = false) (G : kx_G) (x : Nat) (p0 p1 p2 p3 : Int32) (o : Nat) (σ : kx_S) (P : Int32 → kx_S → Prop) (PX : String → kx_S → Prop) (Q : Int32 → kx_S → Prop) (hx : xt σ x = 13) (h : wX11_order x p0 p1 p2 p3 σ P PX) (hP : ∀ r u, P r u → (xt u o = 21 ∧ 1 ≤ xn u o) ∧ Q 0 (xsal u o (Int32.toNatClampNeg 0) r.toInt64)) (hPX : ∀ E u, PX E u → E = pz_N ∧ Q 1 u) : kx_MH l G yL_order cL_order 7 (some .int) [(0, 14, 17, 13)] 8 257 [.ref x, .int p0, .int p1, .int p2, .int p3, .ref o] σ (kx_ri Q) := by
  refine kx_enterH (by decide) rfl (Nat.le_of_ble_eq_true rfl) ?_
  intro p e s m below meth c ls F hr hlocks C htab hl
  have hl : lv_has ls 7 [(0, .ref x), (1, .int p0), (2, .int p1), (3, .int p2), (4, .int p3), (5, .ref o)] := hl
  obtain ⟨H, eH⟩ : ∃ z9, z9 = s.heap := ⟨_, rfl⟩
  obtain ⟨locs, eL⟩ : ∃ z9 : List Loc, z9 = [] := ⟨_, rfl⟩
  rw [← eH, ← eL] at C
  rw [← eH, ← eL]
  obtain ⟨σ0, e0⟩ : ∃ z9, z9 = σ := ⟨_, rfl⟩
  have C : kx_X G (xc σ0) s H locs σ := by rw [e0]; exact C
  suffices hgo : kx_W p l e 8 257 (xc σ0) s m ([.ref x, .int p0, .int p1, .int p2, .int p3, .ref o] : List Value).toArray below meth c H locs σ (vx_MQ below (kx_Q G σ0 (kx_ri Q)) (kx_XC G σ0 (fun _ _ => False)) ([.ref x, .int p0, .int p1, .int p2, .int p3, .ref o] : List Value).toArray s (kx_N - xc σ0) (600 * (kx_N - xc σ0)) (kx_A G)) (F0 m 0 ls []) by rw [e0] at hgo; exact hgo
  clear e0
  refine lv_aload F.1 F.2.1 dL_order_0 (lv_at hl 5 rfl) ?_
  refine lv_iconst (v := 0) F.1 F.2.1 dL_order_2 (by decide) ?_
  refine lv_aload_n F.1 F.2.1 dL_order_3 rfl (lv_at hl 0 rfl) ?_
  refine lv_iload_n F.1 F.2.1 dL_order_4 rfl (lv_at hl 1 rfl) ?_
  refine lv_iload_n F.1 F.2.1 dL_order_5 rfl (lv_at hl 2 rfl) ?_
  refine lv_iload_n F.1 F.2.1 dL_order_6 rfl (lv_at hl 3 rfl) ?_
  refine lv_iload F.1 F.2.1 dL_order_7 (lv_at hl 4 rfl) ?_
  refine xk_X11_order hlt F C x p0 p1 p2 p3 hx h uy_12 (Nat.le_of_ble_eq_true rfl) (Nat.le_of_ble_eq_true rfl) hl.1 (by simp [Value.category]) dL_order_9 (fun E9 ce9 q9 u H locs h9 C hce hcv hcl => ?_) (fun r u H locs h9 C => ?_)
  · obtain ⟨eE, hq⟩ := hPX E9 u h9
    rw [eE] at hcl
    refine pq_catch F.2.2.2.1 _ htab (by decide) (by decide) (F.2.2.2.2 _ uy_1) (va_any rfl C.2.2.1.2.2.2.1.2.2.2.1.2.2.2.1) hce hcv hcl ?_
    refine lv_astore (lv' := [(6, .ref q9), (0, .ref x), (1, .int p0), (2, .int p1), (3, .int p2), (4, .int p3), (5, .ref o)]) F.1 F.2.1 dL_order_17 hl (by decide) rfl (fun ls hl => ?_)
    refine lv_iconst (v := 1) F.1 F.2.1 dL_order_19 (by decide) ?_
    refine vx_ret ?_
    exact kx_iret F C hr hlocks hq dL_order_20
  · obtain ⟨⟨ho, hno⟩, hq⟩ := hP r u h9
    have hin : vp_in 0 (xn u o) := by rw [ki_in, ki_z0]; omega
    refine lv_i2l F.1 F.2.1 dL_order_12 rfl ?_
    refine kx_last F C ho hin dL_order_13 (fun H locs C => ?_)
    refine lv_goto (tgt := 21) F.1 F.2.1 dL_order_14 (by decide) ?_
    refine lv_iconst (v := 0) F.1 F.2.1 dL_order_21 (by decide) ?_
    refine vx_ret ?_
    exact kx_iret F C hr hlocks hq dL_order_22
theorem dL_wants_0 : decode cL_wants 0 = .ok (.aload_n 2, 1) := by decide +kernel
theorem dL_wants_1 : decode cL_wants 1 = .ok (.iconst 0, 1) := by decide +kernel
theorem dL_wants_2 : decode cL_wants 2 = .ok (.aload_n 0, 1) := by decide +kernel
theorem dL_wants_3 : decode cL_wants 3 = .ok (.iload_n 1, 1) := by decide +kernel
theorem dL_wants_4 : decode cL_wants 4 = .ok (.invokevirtual 50, 3) := by decide +kernel
theorem dL_wants_7 : decode cL_wants 7 = .ok (.i2l, 1) := by decide +kernel
theorem dL_wants_8 : decode cL_wants 8 = .ok (.lastore, 1) := by decide +kernel
theorem dL_wants_9 : decode cL_wants 9 = .ok (.goto 6, 3) := by decide +kernel
theorem dL_wants_12 : decode cL_wants 12 = .ok (.astore_n 3, 1) := by decide +kernel
theorem dL_wants_13 : decode cL_wants 13 = .ok (.iconst 1, 1) := by decide +kernel
theorem dL_wants_14 : decode cL_wants 14 = .ok (.ireturn, 1) := by decide +kernel
theorem dL_wants_15 : decode cL_wants 15 = .ok (.iconst 0, 1) := by decide +kernel
theorem dL_wants_16 : decode cL_wants 16 = .ok (.ireturn, 1) := by decide +kernel
set_option maxRecDepth 100000 in
set_option maxHeartbeats 4000000 in
theorem hw_wants (l : Launch) (hlt : l.stackTraces = false) (G : kx_G) (x : Nat) (p0 : Int32) (o : Nat) (σ : kx_S) (P : Int32 → kx_S → Prop) (PX : String → kx_S → Prop) (Q : Int32 → kx_S → Prop) (hx : xt σ x = 13) (h : wX11_wants x p0 σ P PX) (hP : ∀ r u, P r u → (xt u o = 21 ∧ 1 ≤ xn u o) ∧ Q 0 (xsal u o (Int32.toNatClampNeg 0) r.toInt64)) (hPX : ∀ E u, PX E u → E = pz_N ∧ Q 1 u) : kx_MH l G yL_wants cL_wants 4 (some .int) [(0, 9, 12, 13)] 7 103 [.ref x, .int p0, .ref o] σ (kx_ri Q) := by
  refine kx_enterH (by decide) rfl (Nat.le_of_ble_eq_true rfl) ?_
  intro p e s m below meth c ls F hr hlocks C htab hl
  have hl : lv_has ls 4 [(0, .ref x), (1, .int p0), (2, .ref o)] := hl
  obtain ⟨H, eH⟩ : ∃ z9, z9 = s.heap := ⟨_, rfl⟩
  obtain ⟨locs, eL⟩ : ∃ z9 : List Loc, z9 = [] := ⟨_, rfl⟩
  rw [← eH, ← eL] at C
  rw [← eH, ← eL]
  obtain ⟨σ0, e0⟩ : ∃ z9, z9 = σ := ⟨_, rfl⟩
  have C : kx_X G (xc σ0) s H locs σ := by rw [e0]; exact C
  suffices hgo : kx_W p l e 7 103 (xc σ0) s m ([.ref x, .int p0, .ref o] : List Value).toArray below meth c H locs σ (vx_MQ below (kx_Q G σ0 (kx_ri Q)) (kx_XC G σ0 (fun _ _ => False)) ([.ref x, .int p0, .ref o] : List Value).toArray s (kx_N - xc σ0) (600 * (kx_N - xc σ0)) (kx_A G)) (F0 m 0 ls []) by rw [e0] at hgo; exact hgo
  clear e0
  refine lv_aload_n F.1 F.2.1 dL_wants_0 rfl (lv_at hl 2 rfl) ?_
  refine lv_iconst (v := 0) F.1 F.2.1 dL_wants_1 (by decide) ?_
  refine lv_aload_n F.1 F.2.1 dL_wants_2 rfl (lv_at hl 0 rfl) ?_
  refine lv_iload_n F.1 F.2.1 dL_wants_3 rfl (lv_at hl 1 rfl) ?_
  refine xk_X11_wants hlt F C x p0 hx h uy_13 (Nat.le_of_ble_eq_true rfl) (Nat.le_of_ble_eq_true rfl) hl.1 (by simp [Value.category]) dL_wants_4 (fun E9 ce9 q9 u H locs h9 C hce hcv hcl => ?_) (fun r u H locs h9 C => ?_)
  · obtain ⟨eE, hq⟩ := hPX E9 u h9
    rw [eE] at hcl
    refine pq_catch F.2.2.2.1 _ htab (by decide) (by decide) (F.2.2.2.2 _ uy_1) (va_any rfl C.2.2.1.2.2.2.1.2.2.2.1.2.2.2.1) hce hcv hcl ?_
    refine lv_astore_n (lv' := [(3, .ref q9), (0, .ref x), (1, .int p0), (2, .ref o)]) F.1 F.2.1 dL_wants_12 rfl hl (by decide) rfl (fun ls hl => ?_)
    refine lv_iconst (v := 1) F.1 F.2.1 dL_wants_13 (by decide) ?_
    refine vx_ret ?_
    exact kx_iret F C hr hlocks hq dL_wants_14
  · obtain ⟨⟨ho, hno⟩, hq⟩ := hP r u h9
    have hin : vp_in 0 (xn u o) := by rw [ki_in, ki_z0]; omega
    refine lv_i2l F.1 F.2.1 dL_wants_7 rfl ?_
    refine kx_last F C ho hin dL_wants_8 (fun H locs C => ?_)
    refine lv_goto (tgt := 15) F.1 F.2.1 dL_wants_9 (by decide) ?_
    refine lv_iconst (v := 0) F.1 F.2.1 dL_wants_15 (by decide) ?_
    refine vx_ret ?_
    exact kx_iret F C hr hlocks hq dL_wants_16
theorem dL_log_0 : decode cL_log 0 = .ok (.aload_n 3, 1) := by decide +kernel
theorem dL_log_1 : decode cL_log 1 = .ok (.iconst 0, 1) := by decide +kernel
theorem dL_log_2 : decode cL_log 2 = .ok (.aload_n 0, 1) := by decide +kernel
theorem dL_log_3 : decode cL_log 3 = .ok (.iload_n 1, 1) := by decide +kernel
theorem dL_log_4 : decode cL_log 4 = .ok (.iload_n 2, 1) := by decide +kernel
theorem dL_log_5 : decode cL_log 5 = .ok (.invokevirtual 53, 3) := by decide +kernel
theorem dL_log_8 : decode cL_log 8 = .ok (.i2l, 1) := by decide +kernel
theorem dL_log_9 : decode cL_log 9 = .ok (.lastore, 1) := by decide +kernel
theorem dL_log_10 : decode cL_log 10 = .ok (.goto 7, 3) := by decide +kernel
theorem dL_log_13 : decode cL_log 13 = .ok (.astore 4, 2) := by decide +kernel
theorem dL_log_15 : decode cL_log 15 = .ok (.iconst 1, 1) := by decide +kernel
theorem dL_log_16 : decode cL_log 16 = .ok (.ireturn, 1) := by decide +kernel
theorem dL_log_17 : decode cL_log 17 = .ok (.iconst 0, 1) := by decide +kernel
theorem dL_log_18 : decode cL_log 18 = .ok (.ireturn, 1) := by decide +kernel
set_option maxRecDepth 100000 in
set_option maxHeartbeats 4000000 in
theorem hw_log (l : Launch) (hlt : l.stackTraces = false) (G : kx_G) (x : Nat) (p0 p1 : Int32) (o : Nat) (σ : kx_S) (P : Int32 → kx_S → Prop) (PX : String → kx_S → Prop) (Q : Int32 → kx_S → Prop) (hx : xt σ x = 13) (h : wX11_log x p0 p1 σ P PX) (hP : ∀ r u, P r u → (xt u o = 21 ∧ 1 ≤ xn u o) ∧ Q 0 (xsal u o (Int32.toNatClampNeg 0) r.toInt64)) (hPX : ∀ E u, PX E u → E = pz_N ∧ Q 1 u) : kx_MH l G yL_log cL_log 5 (some .int) [(0, 10, 13, 13)] 8 126 [.ref x, .int p0, .int p1, .ref o] σ (kx_ri Q) := by
  refine kx_enterH (by decide) rfl (Nat.le_of_ble_eq_true rfl) ?_
  intro p e s m below meth c ls F hr hlocks C htab hl
  have hl : lv_has ls 5 [(0, .ref x), (1, .int p0), (2, .int p1), (3, .ref o)] := hl
  obtain ⟨H, eH⟩ : ∃ z9, z9 = s.heap := ⟨_, rfl⟩
  obtain ⟨locs, eL⟩ : ∃ z9 : List Loc, z9 = [] := ⟨_, rfl⟩
  rw [← eH, ← eL] at C
  rw [← eH, ← eL]
  obtain ⟨σ0, e0⟩ : ∃ z9, z9 = σ := ⟨_, rfl⟩
  have C : kx_X G (xc σ0) s H locs σ := by rw [e0]; exact C
  suffices hgo : kx_W p l e 8 126 (xc σ0) s m ([.ref x, .int p0, .int p1, .ref o] : List Value).toArray below meth c H locs σ (vx_MQ below (kx_Q G σ0 (kx_ri Q)) (kx_XC G σ0 (fun _ _ => False)) ([.ref x, .int p0, .int p1, .ref o] : List Value).toArray s (kx_N - xc σ0) (600 * (kx_N - xc σ0)) (kx_A G)) (F0 m 0 ls []) by rw [e0] at hgo; exact hgo
  clear e0
  refine lv_aload_n F.1 F.2.1 dL_log_0 rfl (lv_at hl 3 rfl) ?_
  refine lv_iconst (v := 0) F.1 F.2.1 dL_log_1 (by decide) ?_
  refine lv_aload_n F.1 F.2.1 dL_log_2 rfl (lv_at hl 0 rfl) ?_
  refine lv_iload_n F.1 F.2.1 dL_log_3 rfl (lv_at hl 1 rfl) ?_
  refine lv_iload_n F.1 F.2.1 dL_log_4 rfl (lv_at hl 2 rfl) ?_
  refine xk_X11_log hlt F C x p0 p1 hx h uy_14 (Nat.le_of_ble_eq_true rfl) (Nat.le_of_ble_eq_true rfl) hl.1 (by simp [Value.category]) dL_log_5 (fun E9 ce9 q9 u H locs h9 C hce hcv hcl => ?_) (fun r u H locs h9 C => ?_)
  · obtain ⟨eE, hq⟩ := hPX E9 u h9
    rw [eE] at hcl
    refine pq_catch F.2.2.2.1 _ htab (by decide) (by decide) (F.2.2.2.2 _ uy_1) (va_any rfl C.2.2.1.2.2.2.1.2.2.2.1.2.2.2.1) hce hcv hcl ?_
    refine lv_astore (lv' := [(4, .ref q9), (0, .ref x), (1, .int p0), (2, .int p1), (3, .ref o)]) F.1 F.2.1 dL_log_13 hl (by decide) rfl (fun ls hl => ?_)
    refine lv_iconst (v := 1) F.1 F.2.1 dL_log_15 (by decide) ?_
    refine vx_ret ?_
    exact kx_iret F C hr hlocks hq dL_log_16
  · obtain ⟨⟨ho, hno⟩, hq⟩ := hP r u h9
    have hin : vp_in 0 (xn u o) := by rw [ki_in, ki_z0]; omega
    refine lv_i2l F.1 F.2.1 dL_log_8 rfl ?_
    refine kx_last F C ho hin dL_log_9 (fun H locs C => ?_)
    refine lv_goto (tgt := 17) F.1 F.2.1 dL_log_10 (by decide) ?_
    refine lv_iconst (v := 0) F.1 F.2.1 dL_log_17 (by decide) ?_
    refine vx_ret ?_
    exact kx_iret F C hr hlocks hq dL_log_18
theorem dL_cell_0 : decode cL_cell 0 = .ok (.aload 4, 2) := by decide +kernel
theorem dL_cell_2 : decode cL_cell 2 = .ok (.iconst 0, 1) := by decide +kernel
theorem dL_cell_3 : decode cL_cell 3 = .ok (.aload_n 0, 1) := by decide +kernel
theorem dL_cell_4 : decode cL_cell 4 = .ok (.iload_n 1, 1) := by decide +kernel
theorem dL_cell_5 : decode cL_cell 5 = .ok (.iload_n 2, 1) := by decide +kernel
theorem dL_cell_6 : decode cL_cell 6 = .ok (.iload_n 3, 1) := by decide +kernel
theorem dL_cell_7 : decode cL_cell 7 = .ok (.invokevirtual 56, 3) := by decide +kernel
theorem dL_cell_10 : decode cL_cell 10 = .ok (.i2l, 1) := by decide +kernel
theorem dL_cell_11 : decode cL_cell 11 = .ok (.lastore, 1) := by decide +kernel
theorem dL_cell_12 : decode cL_cell 12 = .ok (.goto 7, 3) := by decide +kernel
theorem dL_cell_15 : decode cL_cell 15 = .ok (.astore 5, 2) := by decide +kernel
theorem dL_cell_17 : decode cL_cell 17 = .ok (.iconst 1, 1) := by decide +kernel
theorem dL_cell_18 : decode cL_cell 18 = .ok (.ireturn, 1) := by decide +kernel
theorem dL_cell_19 : decode cL_cell 19 = .ok (.iconst 0, 1) := by decide +kernel
theorem dL_cell_20 : decode cL_cell 20 = .ok (.ireturn, 1) := by decide +kernel
set_option maxRecDepth 100000 in
set_option maxHeartbeats 4000000 in
theorem hw_cell (l : Launch) (hlt : l.stackTraces = false) (G : kx_G) (x : Nat) (p0 p1 p2 : Int32) (o : Nat) (σ : kx_S) (P : Int32 → kx_S → Prop) (PX : String → kx_S → Prop) (Q : Int32 → kx_S → Prop) (hx : xt σ x = 13) (h : wX11_cell x p0 p1 p2 σ P PX) (hP : ∀ r u, P r u → (xt u o = 21 ∧ 1 ≤ xn u o) ∧ Q 0 (xsal u o (Int32.toNatClampNeg 0) r.toInt64)) (hPX : ∀ E u, PX E u → E = pz_N ∧ Q 1 u) : kx_MH l G yL_cell cL_cell 6 (some .int) [(0, 12, 15, 13)] 8 128 [.ref x, .int p0, .int p1, .int p2, .ref o] σ (kx_ri Q) := by
  refine kx_enterH (by decide) rfl (Nat.le_of_ble_eq_true rfl) ?_
  intro p e s m below meth c ls F hr hlocks C htab hl
  have hl : lv_has ls 6 [(0, .ref x), (1, .int p0), (2, .int p1), (3, .int p2), (4, .ref o)] := hl
  obtain ⟨H, eH⟩ : ∃ z9, z9 = s.heap := ⟨_, rfl⟩
  obtain ⟨locs, eL⟩ : ∃ z9 : List Loc, z9 = [] := ⟨_, rfl⟩
  rw [← eH, ← eL] at C
  rw [← eH, ← eL]
  obtain ⟨σ0, e0⟩ : ∃ z9, z9 = σ := ⟨_, rfl⟩
  have C : kx_X G (xc σ0) s H locs σ := by rw [e0]; exact C
  suffices hgo : kx_W p l e 8 128 (xc σ0) s m ([.ref x, .int p0, .int p1, .int p2, .ref o] : List Value).toArray below meth c H locs σ (vx_MQ below (kx_Q G σ0 (kx_ri Q)) (kx_XC G σ0 (fun _ _ => False)) ([.ref x, .int p0, .int p1, .int p2, .ref o] : List Value).toArray s (kx_N - xc σ0) (600 * (kx_N - xc σ0)) (kx_A G)) (F0 m 0 ls []) by rw [e0] at hgo; exact hgo
  clear e0
  refine lv_aload F.1 F.2.1 dL_cell_0 (lv_at hl 4 rfl) ?_
  refine lv_iconst (v := 0) F.1 F.2.1 dL_cell_2 (by decide) ?_
  refine lv_aload_n F.1 F.2.1 dL_cell_3 rfl (lv_at hl 0 rfl) ?_
  refine lv_iload_n F.1 F.2.1 dL_cell_4 rfl (lv_at hl 1 rfl) ?_
  refine lv_iload_n F.1 F.2.1 dL_cell_5 rfl (lv_at hl 2 rfl) ?_
  refine lv_iload_n F.1 F.2.1 dL_cell_6 rfl (lv_at hl 3 rfl) ?_
  refine xk_X11_cell hlt F C x p0 p1 p2 hx h uy_15 (Nat.le_of_ble_eq_true rfl) (Nat.le_of_ble_eq_true rfl) hl.1 (by simp [Value.category]) dL_cell_7 (fun E9 ce9 q9 u H locs h9 C hce hcv hcl => ?_) (fun r u H locs h9 C => ?_)
  · obtain ⟨eE, hq⟩ := hPX E9 u h9
    rw [eE] at hcl
    refine pq_catch F.2.2.2.1 _ htab (by decide) (by decide) (F.2.2.2.2 _ uy_1) (va_any rfl C.2.2.1.2.2.2.1.2.2.2.1.2.2.2.1) hce hcv hcl ?_
    refine lv_astore (lv' := [(5, .ref q9), (0, .ref x), (1, .int p0), (2, .int p1), (3, .int p2), (4, .ref o)]) F.1 F.2.1 dL_cell_15 hl (by decide) rfl (fun ls hl => ?_)
    refine lv_iconst (v := 1) F.1 F.2.1 dL_cell_17 (by decide) ?_
    refine vx_ret ?_
    exact kx_iret F C hr hlocks hq dL_cell_18
  · obtain ⟨⟨ho, hno⟩, hq⟩ := hP r u h9
    have hin : vp_in 0 (xn u o) := by rw [ki_in, ki_z0]; omega
    refine lv_i2l F.1 F.2.1 dL_cell_10 rfl ?_
    refine kx_last F C ho hin dL_cell_11 (fun H locs C => ?_)
    refine lv_goto (tgt := 19) F.1 F.2.1 dL_cell_12 (by decide) ?_
    refine lv_iconst (v := 0) F.1 F.2.1 dL_cell_19 (by decide) ?_
    refine vx_ret ?_
    exact kx_iret F C hr hlocks hq dL_cell_20
theorem dL_inCell_0 : decode cL_inCell 0 = .ok (.aload 4, 2) := by decide +kernel
theorem dL_inCell_2 : decode cL_inCell 2 = .ok (.iconst 0, 1) := by decide +kernel
theorem dL_inCell_3 : decode cL_inCell 3 = .ok (.aload_n 0, 1) := by decide +kernel
theorem dL_inCell_4 : decode cL_inCell 4 = .ok (.iload_n 1, 1) := by decide +kernel
theorem dL_inCell_5 : decode cL_inCell 5 = .ok (.iload_n 2, 1) := by decide +kernel
theorem dL_inCell_6 : decode cL_inCell 6 = .ok (.iload_n 3, 1) := by decide +kernel
theorem dL_inCell_7 : decode cL_inCell 7 = .ok (.invokevirtual 59, 3) := by decide +kernel
theorem dL_inCell_10 : decode cL_inCell 10 = .ok (.i2l, 1) := by decide +kernel
theorem dL_inCell_11 : decode cL_inCell 11 = .ok (.lastore, 1) := by decide +kernel
theorem dL_inCell_12 : decode cL_inCell 12 = .ok (.goto 7, 3) := by decide +kernel
theorem dL_inCell_15 : decode cL_inCell 15 = .ok (.astore 5, 2) := by decide +kernel
theorem dL_inCell_17 : decode cL_inCell 17 = .ok (.iconst 1, 1) := by decide +kernel
theorem dL_inCell_18 : decode cL_inCell 18 = .ok (.ireturn, 1) := by decide +kernel
theorem dL_inCell_19 : decode cL_inCell 19 = .ok (.iconst 0, 1) := by decide +kernel
theorem dL_inCell_20 : decode cL_inCell 20 = .ok (.ireturn, 1) := by decide +kernel
set_option maxRecDepth 100000 in
set_option maxHeartbeats 4000000 in
theorem hw_inCell (l : Launch) (hlt : l.stackTraces = false) (G : kx_G) (x : Nat) (p0 p1 p2 : Int32) (o : Nat) (σ : kx_S) (P : Int32 → kx_S → Prop) (PX : String → kx_S → Prop) (Q : Int32 → kx_S → Prop) (hx : xt σ x = 13) (h : wX11_inCell x p0 p1 p2 σ P PX) (hP : ∀ r u, P r u → (xt u o = 21 ∧ 1 ≤ xn u o) ∧ Q 0 (xsal u o (Int32.toNatClampNeg 0) r.toInt64)) (hPX : ∀ E u, PX E u → E = pz_N ∧ Q 1 u) : kx_MH l G yL_inCell cL_inCell 6 (some .int) [(0, 12, 15, 13)] 8 127 [.ref x, .int p0, .int p1, .int p2, .ref o] σ (kx_ri Q) := by
  refine kx_enterH (by decide) rfl (Nat.le_of_ble_eq_true rfl) ?_
  intro p e s m below meth c ls F hr hlocks C htab hl
  have hl : lv_has ls 6 [(0, .ref x), (1, .int p0), (2, .int p1), (3, .int p2), (4, .ref o)] := hl
  obtain ⟨H, eH⟩ : ∃ z9, z9 = s.heap := ⟨_, rfl⟩
  obtain ⟨locs, eL⟩ : ∃ z9 : List Loc, z9 = [] := ⟨_, rfl⟩
  rw [← eH, ← eL] at C
  rw [← eH, ← eL]
  obtain ⟨σ0, e0⟩ : ∃ z9, z9 = σ := ⟨_, rfl⟩
  have C : kx_X G (xc σ0) s H locs σ := by rw [e0]; exact C
  suffices hgo : kx_W p l e 8 127 (xc σ0) s m ([.ref x, .int p0, .int p1, .int p2, .ref o] : List Value).toArray below meth c H locs σ (vx_MQ below (kx_Q G σ0 (kx_ri Q)) (kx_XC G σ0 (fun _ _ => False)) ([.ref x, .int p0, .int p1, .int p2, .ref o] : List Value).toArray s (kx_N - xc σ0) (600 * (kx_N - xc σ0)) (kx_A G)) (F0 m 0 ls []) by rw [e0] at hgo; exact hgo
  clear e0
  refine lv_aload F.1 F.2.1 dL_inCell_0 (lv_at hl 4 rfl) ?_
  refine lv_iconst (v := 0) F.1 F.2.1 dL_inCell_2 (by decide) ?_
  refine lv_aload_n F.1 F.2.1 dL_inCell_3 rfl (lv_at hl 0 rfl) ?_
  refine lv_iload_n F.1 F.2.1 dL_inCell_4 rfl (lv_at hl 1 rfl) ?_
  refine lv_iload_n F.1 F.2.1 dL_inCell_5 rfl (lv_at hl 2 rfl) ?_
  refine lv_iload_n F.1 F.2.1 dL_inCell_6 rfl (lv_at hl 3 rfl) ?_
  refine xk_X11_inCell hlt F C x p0 p1 p2 hx h uy_16 (Nat.le_of_ble_eq_true rfl) (Nat.le_of_ble_eq_true rfl) hl.1 (by simp [Value.category]) dL_inCell_7 (fun E9 ce9 q9 u H locs h9 C hce hcv hcl => ?_) (fun r u H locs h9 C => ?_)
  · obtain ⟨eE, hq⟩ := hPX E9 u h9
    rw [eE] at hcl
    refine pq_catch F.2.2.2.1 _ htab (by decide) (by decide) (F.2.2.2.2 _ uy_1) (va_any rfl C.2.2.1.2.2.2.1.2.2.2.1.2.2.2.1) hce hcv hcl ?_
    refine lv_astore (lv' := [(5, .ref q9), (0, .ref x), (1, .int p0), (2, .int p1), (3, .int p2), (4, .ref o)]) F.1 F.2.1 dL_inCell_15 hl (by decide) rfl (fun ls hl => ?_)
    refine lv_iconst (v := 1) F.1 F.2.1 dL_inCell_17 (by decide) ?_
    refine vx_ret ?_
    exact kx_iret F C hr hlocks hq dL_inCell_18
  · obtain ⟨⟨ho, hno⟩, hq⟩ := hP r u h9
    have hin : vp_in 0 (xn u o) := by rw [ki_in, ki_z0]; omega
    refine lv_i2l F.1 F.2.1 dL_inCell_10 rfl ?_
    refine kx_last F C ho hin dL_inCell_11 (fun H locs C => ?_)
    refine lv_goto (tgt := 19) F.1 F.2.1 dL_inCell_12 (by decide) ?_
    refine lv_iconst (v := 0) F.1 F.2.1 dL_inCell_19 (by decide) ?_
    refine vx_ret ?_
    exact kx_iret F C hr hlocks hq dL_inCell_20
theorem dL_heap_0 : decode cL_heap 0 = .ok (.aload_n 3, 1) := by decide +kernel
theorem dL_heap_1 : decode cL_heap 1 = .ok (.iconst 0, 1) := by decide +kernel
theorem dL_heap_2 : decode cL_heap 2 = .ok (.aload_n 0, 1) := by decide +kernel
theorem dL_heap_3 : decode cL_heap 3 = .ok (.iload_n 1, 1) := by decide +kernel
theorem dL_heap_4 : decode cL_heap 4 = .ok (.iload_n 2, 1) := by decide +kernel
theorem dL_heap_5 : decode cL_heap 5 = .ok (.invokevirtual 62, 3) := by decide +kernel
theorem dL_heap_8 : decode cL_heap 8 = .ok (.i2l, 1) := by decide +kernel
theorem dL_heap_9 : decode cL_heap 9 = .ok (.lastore, 1) := by decide +kernel
theorem dL_heap_10 : decode cL_heap 10 = .ok (.goto 7, 3) := by decide +kernel
theorem dL_heap_13 : decode cL_heap 13 = .ok (.astore 4, 2) := by decide +kernel
theorem dL_heap_15 : decode cL_heap 15 = .ok (.iconst 1, 1) := by decide +kernel
theorem dL_heap_16 : decode cL_heap 16 = .ok (.ireturn, 1) := by decide +kernel
theorem dL_heap_17 : decode cL_heap 17 = .ok (.iconst 0, 1) := by decide +kernel
theorem dL_heap_18 : decode cL_heap 18 = .ok (.ireturn, 1) := by decide +kernel
set_option maxRecDepth 100000 in
set_option maxHeartbeats 4000000 in
theorem hw_heap (l : Launch) (hlt : l.stackTraces = false) (G : kx_G) (x : Nat) (p0 p1 : Int32) (o : Nat) (σ : kx_S) (P : Int32 → kx_S → Prop) (PX : String → kx_S → Prop) (Q : Int32 → kx_S → Prop) (hx : xt σ x = 13) (h : wX11_heap x p0 p1 σ P PX) (hP : ∀ r u, P r u → (xt u o = 21 ∧ 1 ≤ xn u o) ∧ Q 0 (xsal u o (Int32.toNatClampNeg 0) r.toInt64)) (hPX : ∀ E u, PX E u → E = pz_N ∧ Q 1 u) : kx_MH l G yL_heap cL_heap 5 (some .int) [(0, 10, 13, 13)] 8 126 [.ref x, .int p0, .int p1, .ref o] σ (kx_ri Q) := by
  refine kx_enterH (by decide) rfl (Nat.le_of_ble_eq_true rfl) ?_
  intro p e s m below meth c ls F hr hlocks C htab hl
  have hl : lv_has ls 5 [(0, .ref x), (1, .int p0), (2, .int p1), (3, .ref o)] := hl
  obtain ⟨H, eH⟩ : ∃ z9, z9 = s.heap := ⟨_, rfl⟩
  obtain ⟨locs, eL⟩ : ∃ z9 : List Loc, z9 = [] := ⟨_, rfl⟩
  rw [← eH, ← eL] at C
  rw [← eH, ← eL]
  obtain ⟨σ0, e0⟩ : ∃ z9, z9 = σ := ⟨_, rfl⟩
  have C : kx_X G (xc σ0) s H locs σ := by rw [e0]; exact C
  suffices hgo : kx_W p l e 8 126 (xc σ0) s m ([.ref x, .int p0, .int p1, .ref o] : List Value).toArray below meth c H locs σ (vx_MQ below (kx_Q G σ0 (kx_ri Q)) (kx_XC G σ0 (fun _ _ => False)) ([.ref x, .int p0, .int p1, .ref o] : List Value).toArray s (kx_N - xc σ0) (600 * (kx_N - xc σ0)) (kx_A G)) (F0 m 0 ls []) by rw [e0] at hgo; exact hgo
  clear e0
  refine lv_aload_n F.1 F.2.1 dL_heap_0 rfl (lv_at hl 3 rfl) ?_
  refine lv_iconst (v := 0) F.1 F.2.1 dL_heap_1 (by decide) ?_
  refine lv_aload_n F.1 F.2.1 dL_heap_2 rfl (lv_at hl 0 rfl) ?_
  refine lv_iload_n F.1 F.2.1 dL_heap_3 rfl (lv_at hl 1 rfl) ?_
  refine lv_iload_n F.1 F.2.1 dL_heap_4 rfl (lv_at hl 2 rfl) ?_
  refine xk_X11_heap hlt F C x p0 p1 hx h uy_17 (Nat.le_of_ble_eq_true rfl) (Nat.le_of_ble_eq_true rfl) hl.1 (by simp [Value.category]) dL_heap_5 (fun E9 ce9 q9 u H locs h9 C hce hcv hcl => ?_) (fun r u H locs h9 C => ?_)
  · obtain ⟨eE, hq⟩ := hPX E9 u h9
    rw [eE] at hcl
    refine pq_catch F.2.2.2.1 _ htab (by decide) (by decide) (F.2.2.2.2 _ uy_1) (va_any rfl C.2.2.1.2.2.2.1.2.2.2.1.2.2.2.1) hce hcv hcl ?_
    refine lv_astore (lv' := [(4, .ref q9), (0, .ref x), (1, .int p0), (2, .int p1), (3, .ref o)]) F.1 F.2.1 dL_heap_13 hl (by decide) rfl (fun ls hl => ?_)
    refine lv_iconst (v := 1) F.1 F.2.1 dL_heap_15 (by decide) ?_
    refine vx_ret ?_
    exact kx_iret F C hr hlocks hq dL_heap_16
  · obtain ⟨⟨ho, hno⟩, hq⟩ := hP r u h9
    have hin : vp_in 0 (xn u o) := by rw [ki_in, ki_z0]; omega
    refine lv_i2l F.1 F.2.1 dL_heap_8 rfl ?_
    refine kx_last F C ho hin dL_heap_9 (fun H locs C => ?_)
    refine lv_goto (tgt := 17) F.1 F.2.1 dL_heap_10 (by decide) ?_
    refine lv_iconst (v := 0) F.1 F.2.1 dL_heap_17 (by decide) ?_
    refine vx_ret ?_
    exact kx_iret F C hr hlocks hq dL_heap_18
theorem dL_water_0 : decode cL_water 0 = .ok (.aload_n 3, 1) := by decide +kernel
theorem dL_water_1 : decode cL_water 1 = .ok (.iconst 0, 1) := by decide +kernel
theorem dL_water_2 : decode cL_water 2 = .ok (.aload_n 0, 1) := by decide +kernel
theorem dL_water_3 : decode cL_water 3 = .ok (.iload_n 1, 1) := by decide +kernel
theorem dL_water_4 : decode cL_water 4 = .ok (.iload_n 2, 1) := by decide +kernel
theorem dL_water_5 : decode cL_water 5 = .ok (.invokevirtual 65, 3) := by decide +kernel
theorem dL_water_8 : decode cL_water 8 = .ok (.i2l, 1) := by decide +kernel
theorem dL_water_9 : decode cL_water 9 = .ok (.lastore, 1) := by decide +kernel
theorem dL_water_10 : decode cL_water 10 = .ok (.goto 7, 3) := by decide +kernel
theorem dL_water_13 : decode cL_water 13 = .ok (.astore 4, 2) := by decide +kernel
theorem dL_water_15 : decode cL_water 15 = .ok (.iconst 1, 1) := by decide +kernel
theorem dL_water_16 : decode cL_water 16 = .ok (.ireturn, 1) := by decide +kernel
theorem dL_water_17 : decode cL_water 17 = .ok (.iconst 0, 1) := by decide +kernel
theorem dL_water_18 : decode cL_water 18 = .ok (.ireturn, 1) := by decide +kernel
set_option maxRecDepth 100000 in
set_option maxHeartbeats 4000000 in
theorem hw_water (l : Launch) (hlt : l.stackTraces = false) (G : kx_G) (x : Nat) (p0 p1 : Int32) (o : Nat) (σ : kx_S) (P : Int32 → kx_S → Prop) (PX : String → kx_S → Prop) (Q : Int32 → kx_S → Prop) (hx : xt σ x = 13) (h : wX11_water x p0 p1 σ P PX) (hP : ∀ r u, P r u → (xt u o = 21 ∧ 1 ≤ xn u o) ∧ Q 0 (xsal u o (Int32.toNatClampNeg 0) r.toInt64)) (hPX : ∀ E u, PX E u → E = pz_N ∧ Q 1 u) : kx_MH l G yL_water cL_water 5 (some .int) [(0, 10, 13, 13)] 8 126 [.ref x, .int p0, .int p1, .ref o] σ (kx_ri Q) := by
  refine kx_enterH (by decide) rfl (Nat.le_of_ble_eq_true rfl) ?_
  intro p e s m below meth c ls F hr hlocks C htab hl
  have hl : lv_has ls 5 [(0, .ref x), (1, .int p0), (2, .int p1), (3, .ref o)] := hl
  obtain ⟨H, eH⟩ : ∃ z9, z9 = s.heap := ⟨_, rfl⟩
  obtain ⟨locs, eL⟩ : ∃ z9 : List Loc, z9 = [] := ⟨_, rfl⟩
  rw [← eH, ← eL] at C
  rw [← eH, ← eL]
  obtain ⟨σ0, e0⟩ : ∃ z9, z9 = σ := ⟨_, rfl⟩
  have C : kx_X G (xc σ0) s H locs σ := by rw [e0]; exact C
  suffices hgo : kx_W p l e 8 126 (xc σ0) s m ([.ref x, .int p0, .int p1, .ref o] : List Value).toArray below meth c H locs σ (vx_MQ below (kx_Q G σ0 (kx_ri Q)) (kx_XC G σ0 (fun _ _ => False)) ([.ref x, .int p0, .int p1, .ref o] : List Value).toArray s (kx_N - xc σ0) (600 * (kx_N - xc σ0)) (kx_A G)) (F0 m 0 ls []) by rw [e0] at hgo; exact hgo
  clear e0
  refine lv_aload_n F.1 F.2.1 dL_water_0 rfl (lv_at hl 3 rfl) ?_
  refine lv_iconst (v := 0) F.1 F.2.1 dL_water_1 (by decide) ?_
  refine lv_aload_n F.1 F.2.1 dL_water_2 rfl (lv_at hl 0 rfl) ?_
  refine lv_iload_n F.1 F.2.1 dL_water_3 rfl (lv_at hl 1 rfl) ?_
  refine lv_iload_n F.1 F.2.1 dL_water_4 rfl (lv_at hl 2 rfl) ?_
  refine xk_X11_water hlt F C x p0 p1 hx h uy_18 (Nat.le_of_ble_eq_true rfl) (Nat.le_of_ble_eq_true rfl) hl.1 (by simp [Value.category]) dL_water_5 (fun E9 ce9 q9 u H locs h9 C hce hcv hcl => ?_) (fun r u H locs h9 C => ?_)
  · obtain ⟨eE, hq⟩ := hPX E9 u h9
    rw [eE] at hcl
    refine pq_catch F.2.2.2.1 _ htab (by decide) (by decide) (F.2.2.2.2 _ uy_1) (va_any rfl C.2.2.1.2.2.2.1.2.2.2.1.2.2.2.1) hce hcv hcl ?_
    refine lv_astore (lv' := [(4, .ref q9), (0, .ref x), (1, .int p0), (2, .int p1), (3, .ref o)]) F.1 F.2.1 dL_water_13 hl (by decide) rfl (fun ls hl => ?_)
    refine lv_iconst (v := 1) F.1 F.2.1 dL_water_15 (by decide) ?_
    refine vx_ret ?_
    exact kx_iret F C hr hlocks hq dL_water_16
  · obtain ⟨⟨ho, hno⟩, hq⟩ := hP r u h9
    have hin : vp_in 0 (xn u o) := by rw [ki_in, ki_z0]; omega
    refine lv_i2l F.1 F.2.1 dL_water_8 rfl ?_
    refine kx_last F C ho hin dL_water_9 (fun H locs C => ?_)
    refine lv_goto (tgt := 17) F.1 F.2.1 dL_water_10 (by decide) ?_
    refine lv_iconst (v := 0) F.1 F.2.1 dL_water_17 (by decide) ?_
    refine vx_ret ?_
    exact kx_iret F C hr hlocks hq dL_water_18
theorem dL_waters_0 : decode cL_waters 0 = .ok (.aload_n 2, 1) := by decide +kernel
theorem dL_waters_1 : decode cL_waters 1 = .ok (.iconst 0, 1) := by decide +kernel
theorem dL_waters_2 : decode cL_waters 2 = .ok (.aload_n 0, 1) := by decide +kernel
theorem dL_waters_3 : decode cL_waters 3 = .ok (.iload_n 1, 1) := by decide +kernel
theorem dL_waters_4 : decode cL_waters 4 = .ok (.invokevirtual 68, 3) := by decide +kernel
theorem dL_waters_7 : decode cL_waters 7 = .ok (.lastore, 1) := by decide +kernel
theorem dL_waters_8 : decode cL_waters 8 = .ok (.goto 6, 3) := by decide +kernel
theorem dL_waters_11 : decode cL_waters 11 = .ok (.astore_n 3, 1) := by decide +kernel
theorem dL_waters_12 : decode cL_waters 12 = .ok (.iconst 1, 1) := by decide +kernel
theorem dL_waters_13 : decode cL_waters 13 = .ok (.ireturn, 1) := by decide +kernel
theorem dL_waters_14 : decode cL_waters 14 = .ok (.iconst 0, 1) := by decide +kernel
theorem dL_waters_15 : decode cL_waters 15 = .ok (.ireturn, 1) := by decide +kernel
set_option maxRecDepth 100000 in
set_option maxHeartbeats 4000000 in
theorem hw_waters (l : Launch) (hlt : l.stackTraces = false) (G : kx_G) (x : Nat) (p0 : Int32) (o : Nat) (σ : kx_S) (P : Int64 → kx_S → Prop) (PX : String → kx_S → Prop) (Q : Int32 → kx_S → Prop) (hx : xt σ x = 13) (h : wX11_waters x p0 σ P PX) (hP : ∀ r u, P r u → (xt u o = 21 ∧ 1 ≤ xn u o) ∧ Q 0 (xsal u o (Int32.toNatClampNeg 0) r)) (hPX : ∀ E u, PX E u → E = pz_N ∧ Q 1 u) : kx_MH l G yL_waters cL_waters 4 (some .int) [(0, 8, 11, 13)] 7 103 [.ref x, .int p0, .ref o] σ (kx_ri Q) := by
  refine kx_enterH (by decide) rfl (Nat.le_of_ble_eq_true rfl) ?_
  intro p e s m below meth c ls F hr hlocks C htab hl
  have hl : lv_has ls 4 [(0, .ref x), (1, .int p0), (2, .ref o)] := hl
  obtain ⟨H, eH⟩ : ∃ z9, z9 = s.heap := ⟨_, rfl⟩
  obtain ⟨locs, eL⟩ : ∃ z9 : List Loc, z9 = [] := ⟨_, rfl⟩
  rw [← eH, ← eL] at C
  rw [← eH, ← eL]
  obtain ⟨σ0, e0⟩ : ∃ z9, z9 = σ := ⟨_, rfl⟩
  have C : kx_X G (xc σ0) s H locs σ := by rw [e0]; exact C
  suffices hgo : kx_W p l e 7 103 (xc σ0) s m ([.ref x, .int p0, .ref o] : List Value).toArray below meth c H locs σ (vx_MQ below (kx_Q G σ0 (kx_ri Q)) (kx_XC G σ0 (fun _ _ => False)) ([.ref x, .int p0, .ref o] : List Value).toArray s (kx_N - xc σ0) (600 * (kx_N - xc σ0)) (kx_A G)) (F0 m 0 ls []) by rw [e0] at hgo; exact hgo
  clear e0
  refine lv_aload_n F.1 F.2.1 dL_waters_0 rfl (lv_at hl 2 rfl) ?_
  refine lv_iconst (v := 0) F.1 F.2.1 dL_waters_1 (by decide) ?_
  refine lv_aload_n F.1 F.2.1 dL_waters_2 rfl (lv_at hl 0 rfl) ?_
  refine lv_iload_n F.1 F.2.1 dL_waters_3 rfl (lv_at hl 1 rfl) ?_
  refine xk_X11_waters hlt F C x p0 hx h uy_19 (Nat.le_of_ble_eq_true rfl) (Nat.le_of_ble_eq_true rfl) hl.1 (by simp [Value.category]) dL_waters_4 (fun E9 ce9 q9 u H locs h9 C hce hcv hcl => ?_) (fun r u H locs h9 C => ?_)
  · obtain ⟨eE, hq⟩ := hPX E9 u h9
    rw [eE] at hcl
    refine pq_catch F.2.2.2.1 _ htab (by decide) (by decide) (F.2.2.2.2 _ uy_1) (va_any rfl C.2.2.1.2.2.2.1.2.2.2.1.2.2.2.1) hce hcv hcl ?_
    refine lv_astore_n (lv' := [(3, .ref q9), (0, .ref x), (1, .int p0), (2, .ref o)]) F.1 F.2.1 dL_waters_11 rfl hl (by decide) rfl (fun ls hl => ?_)
    refine lv_iconst (v := 1) F.1 F.2.1 dL_waters_12 (by decide) ?_
    refine vx_ret ?_
    exact kx_iret F C hr hlocks hq dL_waters_13
  · obtain ⟨⟨ho, hno⟩, hq⟩ := hP r u h9
    have hin : vp_in 0 (xn u o) := by rw [ki_in, ki_z0]; omega
    refine kx_last F C ho hin dL_waters_7 (fun H locs C => ?_)
    refine lv_goto (tgt := 14) F.1 F.2.1 dL_waters_8 (by decide) ?_
    refine lv_iconst (v := 0) F.1 F.2.1 dL_waters_14 (by decide) ?_
    refine vx_ret ?_
    exact kx_iret F C hr hlocks hq dL_waters_15
theorem dL_board_0 : decode cL_board 0 = .ok (.aload_n 2, 1) := by decide +kernel
theorem dL_board_1 : decode cL_board 1 = .ok (.iconst 0, 1) := by decide +kernel
theorem dL_board_2 : decode cL_board 2 = .ok (.aload_n 0, 1) := by decide +kernel
theorem dL_board_3 : decode cL_board 3 = .ok (.iload_n 1, 1) := by decide +kernel
theorem dL_board_4 : decode cL_board 4 = .ok (.invokevirtual 72, 3) := by decide +kernel
theorem dL_board_7 : decode cL_board 7 = .ok (.i2l, 1) := by decide +kernel
theorem dL_board_8 : decode cL_board 8 = .ok (.lastore, 1) := by decide +kernel
theorem dL_board_9 : decode cL_board 9 = .ok (.goto 6, 3) := by decide +kernel
theorem dL_board_12 : decode cL_board 12 = .ok (.astore_n 3, 1) := by decide +kernel
theorem dL_board_13 : decode cL_board 13 = .ok (.iconst 1, 1) := by decide +kernel
theorem dL_board_14 : decode cL_board 14 = .ok (.ireturn, 1) := by decide +kernel
theorem dL_board_15 : decode cL_board 15 = .ok (.iconst 0, 1) := by decide +kernel
theorem dL_board_16 : decode cL_board 16 = .ok (.ireturn, 1) := by decide +kernel
set_option maxRecDepth 100000 in
set_option maxHeartbeats 4000000 in
theorem hw_board (l : Launch) (hlt : l.stackTraces = false) (G : kx_G) (x : Nat) (p0 : Int32) (o : Nat) (σ : kx_S) (P : Int32 → kx_S → Prop) (PX : String → kx_S → Prop) (Q : Int32 → kx_S → Prop) (hx : xt σ x = 13) (h : wX11_board x p0 σ P PX) (hP : ∀ r u, P r u → (xt u o = 21 ∧ 1 ≤ xn u o) ∧ Q 0 (xsal u o (Int32.toNatClampNeg 0) r.toInt64)) (hPX : ∀ E u, PX E u → E = pz_N ∧ Q 1 u) : kx_MH l G yL_board cL_board 4 (some .int) [(0, 9, 12, 13)] 7 105 [.ref x, .int p0, .ref o] σ (kx_ri Q) := by
  refine kx_enterH (by decide) rfl (Nat.le_of_ble_eq_true rfl) ?_
  intro p e s m below meth c ls F hr hlocks C htab hl
  have hl : lv_has ls 4 [(0, .ref x), (1, .int p0), (2, .ref o)] := hl
  obtain ⟨H, eH⟩ : ∃ z9, z9 = s.heap := ⟨_, rfl⟩
  obtain ⟨locs, eL⟩ : ∃ z9 : List Loc, z9 = [] := ⟨_, rfl⟩
  rw [← eH, ← eL] at C
  rw [← eH, ← eL]
  obtain ⟨σ0, e0⟩ : ∃ z9, z9 = σ := ⟨_, rfl⟩
  have C : kx_X G (xc σ0) s H locs σ := by rw [e0]; exact C
  suffices hgo : kx_W p l e 7 105 (xc σ0) s m ([.ref x, .int p0, .ref o] : List Value).toArray below meth c H locs σ (vx_MQ below (kx_Q G σ0 (kx_ri Q)) (kx_XC G σ0 (fun _ _ => False)) ([.ref x, .int p0, .ref o] : List Value).toArray s (kx_N - xc σ0) (600 * (kx_N - xc σ0)) (kx_A G)) (F0 m 0 ls []) by rw [e0] at hgo; exact hgo
  clear e0
  refine lv_aload_n F.1 F.2.1 dL_board_0 rfl (lv_at hl 2 rfl) ?_
  refine lv_iconst (v := 0) F.1 F.2.1 dL_board_1 (by decide) ?_
  refine lv_aload_n F.1 F.2.1 dL_board_2 rfl (lv_at hl 0 rfl) ?_
  refine lv_iload_n F.1 F.2.1 dL_board_3 rfl (lv_at hl 1 rfl) ?_
  refine xk_X11_board hlt F C x p0 hx h uy_20 (Nat.le_of_ble_eq_true rfl) (Nat.le_of_ble_eq_true rfl) hl.1 (by simp [Value.category]) dL_board_4 (fun E9 ce9 q9 u H locs h9 C hce hcv hcl => ?_) (fun r u H locs h9 C => ?_)
  · obtain ⟨eE, hq⟩ := hPX E9 u h9
    rw [eE] at hcl
    refine pq_catch F.2.2.2.1 _ htab (by decide) (by decide) (F.2.2.2.2 _ uy_1) (va_any rfl C.2.2.1.2.2.2.1.2.2.2.1.2.2.2.1) hce hcv hcl ?_
    refine lv_astore_n (lv' := [(3, .ref q9), (0, .ref x), (1, .int p0), (2, .ref o)]) F.1 F.2.1 dL_board_12 rfl hl (by decide) rfl (fun ls hl => ?_)
    refine lv_iconst (v := 1) F.1 F.2.1 dL_board_13 (by decide) ?_
    refine vx_ret ?_
    exact kx_iret F C hr hlocks hq dL_board_14
  · obtain ⟨⟨ho, hno⟩, hq⟩ := hP r u h9
    have hin : vp_in 0 (xn u o) := by rw [ki_in, ki_z0]; omega
    refine lv_i2l F.1 F.2.1 dL_board_7 rfl ?_
    refine kx_last F C ho hin dL_board_8 (fun H locs C => ?_)
    refine lv_goto (tgt := 15) F.1 F.2.1 dL_board_9 (by decide) ?_
    refine lv_iconst (v := 0) F.1 F.2.1 dL_board_15 (by decide) ?_
    refine vx_ret ?_
    exact kx_iret F C hr hlocks hq dL_board_16
theorem dL_paid_0 : decode cL_paid 0 = .ok (.aload_n 2, 1) := by decide +kernel
theorem dL_paid_1 : decode cL_paid 1 = .ok (.iconst 0, 1) := by decide +kernel
theorem dL_paid_2 : decode cL_paid 2 = .ok (.aload_n 0, 1) := by decide +kernel
theorem dL_paid_3 : decode cL_paid 3 = .ok (.iload_n 1, 1) := by decide +kernel
theorem dL_paid_4 : decode cL_paid 4 = .ok (.invokevirtual 75, 3) := by decide +kernel
theorem dL_paid_7 : decode cL_paid 7 = .ok (.lastore, 1) := by decide +kernel
theorem dL_paid_8 : decode cL_paid 8 = .ok (.goto 6, 3) := by decide +kernel
theorem dL_paid_11 : decode cL_paid 11 = .ok (.astore_n 3, 1) := by decide +kernel
theorem dL_paid_12 : decode cL_paid 12 = .ok (.iconst 1, 1) := by decide +kernel
theorem dL_paid_13 : decode cL_paid 13 = .ok (.ireturn, 1) := by decide +kernel
theorem dL_paid_14 : decode cL_paid 14 = .ok (.iconst 0, 1) := by decide +kernel
theorem dL_paid_15 : decode cL_paid 15 = .ok (.ireturn, 1) := by decide +kernel
set_option maxRecDepth 100000 in
set_option maxHeartbeats 4000000 in
theorem hw_paid (l : Launch) (hlt : l.stackTraces = false) (G : kx_G) (x : Nat) (p0 : Int32) (o : Nat) (σ : kx_S) (P : Int64 → kx_S → Prop) (PX : String → kx_S → Prop) (Q : Int32 → kx_S → Prop) (hx : xt σ x = 13) (h : wX11_paid x p0 σ P PX) (hP : ∀ r u, P r u → (xt u o = 21 ∧ 1 ≤ xn u o) ∧ Q 0 (xsal u o (Int32.toNatClampNeg 0) r)) (hPX : ∀ E u, PX E u → E = pz_N ∧ Q 1 u) : kx_MH l G yL_paid cL_paid 4 (some .int) [(0, 8, 11, 13)] 7 103 [.ref x, .int p0, .ref o] σ (kx_ri Q) := by
  refine kx_enterH (by decide) rfl (Nat.le_of_ble_eq_true rfl) ?_
  intro p e s m below meth c ls F hr hlocks C htab hl
  have hl : lv_has ls 4 [(0, .ref x), (1, .int p0), (2, .ref o)] := hl
  obtain ⟨H, eH⟩ : ∃ z9, z9 = s.heap := ⟨_, rfl⟩
  obtain ⟨locs, eL⟩ : ∃ z9 : List Loc, z9 = [] := ⟨_, rfl⟩
  rw [← eH, ← eL] at C
  rw [← eH, ← eL]
  obtain ⟨σ0, e0⟩ : ∃ z9, z9 = σ := ⟨_, rfl⟩
  have C : kx_X G (xc σ0) s H locs σ := by rw [e0]; exact C
  suffices hgo : kx_W p l e 7 103 (xc σ0) s m ([.ref x, .int p0, .ref o] : List Value).toArray below meth c H locs σ (vx_MQ below (kx_Q G σ0 (kx_ri Q)) (kx_XC G σ0 (fun _ _ => False)) ([.ref x, .int p0, .ref o] : List Value).toArray s (kx_N - xc σ0) (600 * (kx_N - xc σ0)) (kx_A G)) (F0 m 0 ls []) by rw [e0] at hgo; exact hgo
  clear e0
  refine lv_aload_n F.1 F.2.1 dL_paid_0 rfl (lv_at hl 2 rfl) ?_
  refine lv_iconst (v := 0) F.1 F.2.1 dL_paid_1 (by decide) ?_
  refine lv_aload_n F.1 F.2.1 dL_paid_2 rfl (lv_at hl 0 rfl) ?_
  refine lv_iload_n F.1 F.2.1 dL_paid_3 rfl (lv_at hl 1 rfl) ?_
  refine xk_X11_paid hlt F C x p0 hx h uy_21 (Nat.le_of_ble_eq_true rfl) (Nat.le_of_ble_eq_true rfl) hl.1 (by simp [Value.category]) dL_paid_4 (fun E9 ce9 q9 u H locs h9 C hce hcv hcl => ?_) (fun r u H locs h9 C => ?_)
  · obtain ⟨eE, hq⟩ := hPX E9 u h9
    rw [eE] at hcl
    refine pq_catch F.2.2.2.1 _ htab (by decide) (by decide) (F.2.2.2.2 _ uy_1) (va_any rfl C.2.2.1.2.2.2.1.2.2.2.1.2.2.2.1) hce hcv hcl ?_
    refine lv_astore_n (lv' := [(3, .ref q9), (0, .ref x), (1, .int p0), (2, .ref o)]) F.1 F.2.1 dL_paid_11 rfl hl (by decide) rfl (fun ls hl => ?_)
    refine lv_iconst (v := 1) F.1 F.2.1 dL_paid_12 (by decide) ?_
    refine vx_ret ?_
    exact kx_iret F C hr hlocks hq dL_paid_13
  · obtain ⟨⟨ho, hno⟩, hq⟩ := hP r u h9
    have hin : vp_in 0 (xn u o) := by rw [ki_in, ki_z0]; omega
    refine kx_last F C ho hin dL_paid_7 (fun H locs C => ?_)
    refine lv_goto (tgt := 14) F.1 F.2.1 dL_paid_8 (by decide) ?_
    refine lv_iconst (v := 0) F.1 F.2.1 dL_paid_14 (by decide) ?_
    refine vx_ret ?_
    exact kx_iret F C hr hlocks hq dL_paid_15
theorem dL_count_0 : decode cL_count 0 = .ok (.aload_n 2, 1) := by decide +kernel
theorem dL_count_1 : decode cL_count 1 = .ok (.iconst 0, 1) := by decide +kernel
theorem dL_count_2 : decode cL_count 2 = .ok (.aload_n 0, 1) := by decide +kernel
theorem dL_count_3 : decode cL_count 3 = .ok (.iload_n 1, 1) := by decide +kernel
theorem dL_count_4 : decode cL_count 4 = .ok (.invokevirtual 78, 3) := by decide +kernel
theorem dL_count_7 : decode cL_count 7 = .ok (.i2l, 1) := by decide +kernel
theorem dL_count_8 : decode cL_count 8 = .ok (.lastore, 1) := by decide +kernel
theorem dL_count_9 : decode cL_count 9 = .ok (.goto 6, 3) := by decide +kernel
theorem dL_count_12 : decode cL_count 12 = .ok (.astore_n 3, 1) := by decide +kernel
theorem dL_count_13 : decode cL_count 13 = .ok (.iconst 1, 1) := by decide +kernel
theorem dL_count_14 : decode cL_count 14 = .ok (.ireturn, 1) := by decide +kernel
theorem dL_count_15 : decode cL_count 15 = .ok (.iconst 0, 1) := by decide +kernel
theorem dL_count_16 : decode cL_count 16 = .ok (.ireturn, 1) := by decide +kernel
set_option maxRecDepth 100000 in
set_option maxHeartbeats 4000000 in
theorem hw_count (l : Launch) (hlt : l.stackTraces = false) (G : kx_G) (x : Nat) (p0 : Int32) (o : Nat) (σ : kx_S) (P : Int32 → kx_S → Prop) (PX : String → kx_S → Prop) (Q : Int32 → kx_S → Prop) (hx : xt σ x = 13) (h : wX11_count x p0 σ P PX) (hP : ∀ r u, P r u → (xt u o = 21 ∧ 1 ≤ xn u o) ∧ Q 0 (xsal u o (Int32.toNatClampNeg 0) r.toInt64)) (hPX : ∀ E u, PX E u → E = pz_N ∧ Q 1 u) : kx_MH l G yL_count cL_count 4 (some .int) [(0, 9, 12, 13)] 7 111 [.ref x, .int p0, .ref o] σ (kx_ri Q) := by
  refine kx_enterH (by decide) rfl (Nat.le_of_ble_eq_true rfl) ?_
  intro p e s m below meth c ls F hr hlocks C htab hl
  have hl : lv_has ls 4 [(0, .ref x), (1, .int p0), (2, .ref o)] := hl
  obtain ⟨H, eH⟩ : ∃ z9, z9 = s.heap := ⟨_, rfl⟩
  obtain ⟨locs, eL⟩ : ∃ z9 : List Loc, z9 = [] := ⟨_, rfl⟩
  rw [← eH, ← eL] at C
  rw [← eH, ← eL]
  obtain ⟨σ0, e0⟩ : ∃ z9, z9 = σ := ⟨_, rfl⟩
  have C : kx_X G (xc σ0) s H locs σ := by rw [e0]; exact C
  suffices hgo : kx_W p l e 7 111 (xc σ0) s m ([.ref x, .int p0, .ref o] : List Value).toArray below meth c H locs σ (vx_MQ below (kx_Q G σ0 (kx_ri Q)) (kx_XC G σ0 (fun _ _ => False)) ([.ref x, .int p0, .ref o] : List Value).toArray s (kx_N - xc σ0) (600 * (kx_N - xc σ0)) (kx_A G)) (F0 m 0 ls []) by rw [e0] at hgo; exact hgo
  clear e0
  refine lv_aload_n F.1 F.2.1 dL_count_0 rfl (lv_at hl 2 rfl) ?_
  refine lv_iconst (v := 0) F.1 F.2.1 dL_count_1 (by decide) ?_
  refine lv_aload_n F.1 F.2.1 dL_count_2 rfl (lv_at hl 0 rfl) ?_
  refine lv_iload_n F.1 F.2.1 dL_count_3 rfl (lv_at hl 1 rfl) ?_
  refine xk_X11_count hlt F C x p0 hx h uy_22 (Nat.le_of_ble_eq_true rfl) (Nat.le_of_ble_eq_true rfl) hl.1 (by simp [Value.category]) dL_count_4 (fun E9 ce9 q9 u H locs h9 C hce hcv hcl => ?_) (fun r u H locs h9 C => ?_)
  · obtain ⟨eE, hq⟩ := hPX E9 u h9
    rw [eE] at hcl
    refine pq_catch F.2.2.2.1 _ htab (by decide) (by decide) (F.2.2.2.2 _ uy_1) (va_any rfl C.2.2.1.2.2.2.1.2.2.2.1.2.2.2.1) hce hcv hcl ?_
    refine lv_astore_n (lv' := [(3, .ref q9), (0, .ref x), (1, .int p0), (2, .ref o)]) F.1 F.2.1 dL_count_12 rfl hl (by decide) rfl (fun ls hl => ?_)
    refine lv_iconst (v := 1) F.1 F.2.1 dL_count_13 (by decide) ?_
    refine vx_ret ?_
    exact kx_iret F C hr hlocks hq dL_count_14
  · obtain ⟨⟨ho, hno⟩, hq⟩ := hP r u h9
    have hin : vp_in 0 (xn u o) := by rw [ki_in, ki_z0]; omega
    refine lv_i2l F.1 F.2.1 dL_count_7 rfl ?_
    refine kx_last F C ho hin dL_count_8 (fun H locs C => ?_)
    refine lv_goto (tgt := 15) F.1 F.2.1 dL_count_9 (by decide) ?_
    refine lv_iconst (v := 0) F.1 F.2.1 dL_count_15 (by decide) ?_
    refine vx_ret ?_
    exact kx_iret F C hr hlocks hq dL_count_16

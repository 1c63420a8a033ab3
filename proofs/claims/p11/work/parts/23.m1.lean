theorem dX12_fail_0 : decode cX12_fail 0 = .ok (.aload_n 0, 1) := by decide +kernel
theorem dX12_fail_1 : decode cX12_fail 1 = .ok (.iconst 1, 1) := by decide +kernel
theorem dX12_fail_2 : decode cX12_fail 2 = .ok (.putfield 173, 3) := by decide +kernel
theorem dX12_fail_5 : decode cX12_fail 5 = .ok (.iconst 0, 1) := by decide +kernel
theorem dX12_fail_6 : decode cX12_fail 6 = .ok (.ireturn, 1) := by decide +kernel
def wX12_fail (μ : km_S) (Q : Int32 → km_S → Prop) : Prop := ∀ μ1, μ1 = km_si μ 1 1 → Q 0 μ1
set_option maxRecDepth 100000 in
set_option maxHeartbeats 4000000 in
theorem hc_X12_fail (l : Launch) (G : km_G) (μ : km_S) (Q : Int32 → km_S → Prop) (h : wX12_fail μ Q) : km_M l G yX12_fail cX12_fail 1 (some .int) (0) (0) [.ref (G.1 0)] μ (km_Qi G Q) := by
  refine km_enter (by decide) rfl (Nat.le_of_ble_eq_true rfl) ?_
  intro p e s m below meth c ls F hr hlocks C hl
  have hl : lv_has ls 1 [(0, .ref (G.1 0))] := hl
  obtain ⟨H, eH⟩ : ∃ z9, z9 = s.heap := ⟨_, rfl⟩
  obtain ⟨locs, eL⟩ : ∃ z9 : List Loc, z9 = [] := ⟨_, rfl⟩
  rw [← eH, ← eL] at C
  rw [← eH, ← eL]
  refine lv_aload_n F.1 F.2.1 dX12_fail_0 rfl (lv_at hl 0 rfl) ?_
  refine lv_iconst (v := 1) F.1 F.2.1 dX12_fail_1 (by decide) ?_
  refine kp_code F C dX12_fail_2 (fun H locs C => ?_)
  generalize eμ1 : km_si μ 1 1 = μ1 at C
  have h := h μ1 eμ1.symm
  refine lv_iconst (v := 0) F.1 F.2.1 dX12_fail_5 (by decide) ?_
  exact km_iret F C hr hlocks h dX12_fail_6
section
variable {p : Program} {l : Launch} {e : Env} {R : Room} {s : State} {m : MethodId} {args : Array Value} {below : List Frame} {meth : Method} {c : Code} {H : Heap} {locs : List Loc} {Q : State → Prop}
variable {cc : ByteArray} {pc nL : Nat} {ls : Array Slot} {rest : List Value} {G : km_G} {μ : km_S}
theorem kc_X12_fail (F : CallFix p m c cc nL s args kt_ RX12) (C : km_X G s H locs μ) {P : Int32 → km_S → Prop} (h : wX12_fail μ P) (h1 : (0) + 1 ≤ R.frames) (h2 : 8 + (1 + 11) + (0) ≤ R.locals) (hsz : ls.size = nL) (hW : (rest.map fun v => v.category).sum ≤ 8) (hdg : decode cc pc = .ok (.invokevirtual 183, 3)) (kk : ∀ (r : Int32) (μ' : km_S) (H1 : Heap) (locs1 : List Loc), P r μ' → km_X G s H1 locs1 μ' → W p l e R s m args below meth c H1 locs1 0 0 Q (F0 m (pc + 3) ls (.int r :: rest))) : W p l e R s m args below meth c H locs 0 0 Q (F0 m pc ls (.ref (G.1 0) :: rest)) :=
  km_cVi (n := 0) (As := []) F C (hc_X12_fail l G μ P h) (kt_V tw_148 tw_149 tw_150 tw_151 tw_152) (by decide +kernel) ⟨h1, h2⟩ rfl hsz hW hdg kk
end
theorem dX12_isReach_0 : decode cX12_isReach 0 = .ok (.iload_n 1, 1) := by decide +kernel
theorem dX12_isReach_1 : decode cX12_isReach 1 = .ok (.ifCond .lt 15, 3) := by decide +kernel
theorem dX12_isReach_4 : decode cX12_isReach 4 = .ok (.iload_n 1, 1) := by decide +kernel
theorem dX12_isReach_5 : decode cX12_isReach 5 = .ok (.aload_n 0, 1) := by decide +kernel
theorem dX12_isReach_6 : decode cX12_isReach 6 = .ok (.getfield 176, 3) := by decide +kernel
theorem dX12_isReach_9 : decode cX12_isReach 9 = .ok (.if_icmp .ge 7, 3) := by decide +kernel
theorem dX12_isReach_12 : decode cX12_isReach 12 = .ok (.iconst 1, 1) := by decide +kernel
theorem dX12_isReach_13 : decode cX12_isReach 13 = .ok (.goto 4, 3) := by decide +kernel
theorem dX12_isReach_16 : decode cX12_isReach 16 = .ok (.iconst 0, 1) := by decide +kernel
theorem dX12_isReach_17 : decode cX12_isReach 17 = .ok (.ireturn, 1) := by decide +kernel
def wX12_isReach (l1 : Int32) (μ : km_S) (Q : Int32 → km_S → Prop) : Prop := ((l1 < 0 → Q 0 μ) ∧
  (¬ (l1 < 0) → (((km_i μ 3) ≤ l1 → Q 0 μ) ∧
    (¬ ((km_i μ 3) ≤ l1) → Q 1 μ))))
set_option maxRecDepth 100000 in
set_option maxHeartbeats 4000000 in
theorem hc_X12_isReach (l : Launch) (G : km_G) (l1 : Int32) (μ : km_S) (Q : Int32 → km_S → Prop) (h : wX12_isReach l1 μ Q) : km_M l G yX12_isReach cX12_isReach 2 (some .boolean) (0) (0) [.ref (G.1 0), .int l1] μ (km_Qi G Q) := by
  refine km_enter (by decide) rfl (Nat.le_of_ble_eq_true rfl) ?_
  intro p e s m below meth c ls F hr hlocks C hl
  have hl : lv_has ls 2 [(0, .ref (G.1 0)), (1, .int l1)] := hl
  obtain ⟨H, eH⟩ : ∃ z9, z9 = s.heap := ⟨_, rfl⟩
  obtain ⟨locs, eL⟩ : ∃ z9 : List Loc, z9 = [] := ⟨_, rfl⟩
  rw [← eH, ← eL] at C
  rw [← eH, ← eL]
  refine lv_iload_n F.1 F.2.1 dX12_isReach_0 rfl (lv_at hl 1 rfl) ?_
  refine lv_if_lt (tgt := 16) F.1 F.2.1 dX12_isReach_1 (by decide) (fun c1 => ?_) (fun c1 => ?_)
  · have h := h.1 c1
    refine lv_iconst (v := 0) F.1 F.2.1 dX12_isReach_16 (by decide) ?_
    exact km_zret F C hr hlocks rfl h dX12_isReach_17
  · have h := h.2 c1
    refine lv_iload_n F.1 F.2.1 dX12_isReach_4 rfl (lv_at hl 1 rfl) ?_
    refine lv_aload_n F.1 F.2.1 dX12_isReach_5 rfl (lv_at hl 0 rfl) ?_
    refine kg_reaches F C dX12_isReach_6 ?_
    refine lv_icmp_ge (tgt := 16) F.1 F.2.1 dX12_isReach_9 (by decide) (fun c2 => ?_) (fun c2 => ?_)
    · have h := h.1 c2
      refine lv_iconst (v := 0) F.1 F.2.1 dX12_isReach_16 (by decide) ?_
      exact km_zret F C hr hlocks rfl h dX12_isReach_17
    · have h := h.2 c2
      refine lv_iconst (v := 1) F.1 F.2.1 dX12_isReach_12 (by decide) ?_
      refine lv_goto (tgt := 17) F.1 F.2.1 dX12_isReach_13 (by decide) ?_
      exact km_zret F C hr hlocks rfl h dX12_isReach_17
section
variable {p : Program} {l : Launch} {e : Env} {R : Room} {s : State} {m : MethodId} {args : Array Value} {below : List Frame} {meth : Method} {c : Code} {H : Heap} {locs : List Loc} {Q : State → Prop}
variable {cc : ByteArray} {pc nL : Nat} {ls : Array Slot} {rest : List Value} {G : km_G} {μ : km_S}
theorem kc_X12_isReach (F : CallFix p m c cc nL s args kt_ RX12) (C : km_X G s H locs μ) {P : Int32 → km_S → Prop} {l1 : Int32} (h : wX12_isReach l1 μ P) (h1 : (0) + 1 ≤ R.frames) (h2 : 8 + (2 + 11) + (0) ≤ R.locals) (hsz : ls.size = nL) (hW : (rest.map fun v => v.category).sum ≤ 8) (hdg : decode cc pc = .ok (.invokevirtual 179, 3)) (kk : ∀ (r : Int32) (μ' : km_S) (H1 : Heap) (locs1 : List Loc), P r μ' → km_X G s H1 locs1 μ' → W p l e R s m args below meth c H1 locs1 0 0 Q (F0 m (pc + 3) ls (.int r :: rest))) : W p l e R s m args below meth c H locs 0 0 Q (F0 m pc ls (.int l1 :: .ref (G.1 0) :: rest)) :=
  km_cVi (n := 1) (As := [.int l1]) F C (hc_X12_isReach l G l1 μ P h) (kt_V tw_153 tw_154 tw_155 tw_151 tw_156) (by decide +kernel) ⟨h1, h2⟩ rfl hsz hW hdg kk
end
theorem dX12_at0_0 : decode cX12_at0 0 = .ok (.bipush 12, 2) := by decide +kernel
theorem dX12_at0_2 : decode cX12_at0 2 = .ok (.iload_n 0, 1) := by decide +kernel
theorem dX12_at0_3 : decode cX12_at0 3 = .ok (.imul, 1) := by decide +kernel
theorem dX12_at0_4 : decode cX12_at0 4 = .ok (.iload_n 1, 1) := by decide +kernel
theorem dX12_at0_5 : decode cX12_at0 5 = .ok (.iadd, 1) := by decide +kernel
theorem dX12_at0_6 : decode cX12_at0 6 = .ok (.ireturn, 1) := by decide +kernel
def wX12_at0 (l0 : Int32) (l1 : Int32) (μ : km_S) (Q : Int32 → km_S → Prop) : Prop := Q ((12 * l0) + l1) μ
set_option maxRecDepth 100000 in
set_option maxHeartbeats 4000000 in
theorem hc_X12_at0 (l : Launch) (G : km_G) (l0 : Int32) (l1 : Int32) (μ : km_S) (Q : Int32 → km_S → Prop) (h : wX12_at0 l0 l1 μ Q) : km_M l G yX12_at0 cX12_at0 2 (some .int) (0) (0) [.int l0, .int l1] μ (km_Qi G Q) := by
  refine km_enter (by decide) rfl (Nat.le_of_ble_eq_true rfl) ?_
  intro p e s m below meth c ls F hr hlocks C hl
  have hl : lv_has ls 2 [(0, .int l0), (1, .int l1)] := hl
  obtain ⟨H, eH⟩ : ∃ z9, z9 = s.heap := ⟨_, rfl⟩
  obtain ⟨locs, eL⟩ : ∃ z9 : List Loc, z9 = [] := ⟨_, rfl⟩
  rw [← eH, ← eL] at C
  rw [← eH, ← eL]
  refine lv_bipush (v := 12) F.1 F.2.1 dX12_at0_0 (by decide) ?_
  refine lv_iload_n F.1 F.2.1 dX12_at0_2 rfl (lv_at hl 0 rfl) ?_
  refine lv_imul (x := 12) (y := l0) F.1 F.2.1 dX12_at0_3 ?_
  refine lv_iload_n F.1 F.2.1 dX12_at0_4 rfl (lv_at hl 1 rfl) ?_
  refine lv_iadd (x := 12 * l0) (y := l1) F.1 F.2.1 dX12_at0_5 ?_
  exact km_iret F C hr hlocks h dX12_at0_6
section
variable {p : Program} {l : Launch} {e : Env} {R : Room} {s : State} {m : MethodId} {args : Array Value} {below : List Frame} {meth : Method} {c : Code} {H : Heap} {locs : List Loc} {Q : State → Prop}
variable {cc : ByteArray} {pc nL : Nat} {ls : Array Slot} {rest : List Value} {G : km_G} {μ : km_S}
theorem kc_X12_at0 (F : CallFix p m c cc nL s args kt_ RX12) (C : km_X G s H locs μ) {P : Int32 → km_S → Prop} {l0 : Int32} {l1 : Int32} (h : wX12_at0 l0 l1 μ P) (h1 : (0) + 1 ≤ R.frames) (h2 : 8 + (2 + 11) + (0) ≤ R.locals) (hsz : ls.size = nL) (hW : (rest.map fun v => v.category).sum ≤ 8) (hdg : decode cc pc = .ok (.invokestatic 307, 3)) (kk : ∀ (r : Int32) (μ' : km_S) (H1 : Heap) (locs1 : List Loc), P r μ' → km_X G s H1 locs1 μ' → W p l e R s m args below meth c H1 locs1 0 0 Q (F0 m (pc + 3) ls (.int r :: rest))) : W p l e R s m args below meth c H locs 0 0 Q (F0 m pc ls (.int l1 :: .int l0 :: rest)) :=
  km_cSi (n := 2) (As := [.int l0, .int l1]) F C (hc_X12_at0 l G l0 l1 μ P h) (kt_S tw_157 tw_158 tw_151 tw_159) (by decide +kernel) ⟨h1, h2⟩ rfl hsz hW hdg kk
end
theorem dX12_isLog_0 : decode cX12_isLog 0 = .ok (.iload_n 1, 1) := by decide +kernel
theorem dX12_isLog_1 : decode cX12_isLog 1 = .ok (.ifCond .lt 15, 3) := by decide +kernel
theorem dX12_isLog_4 : decode cX12_isLog 4 = .ok (.iload_n 1, 1) := by decide +kernel
theorem dX12_isLog_5 : decode cX12_isLog 5 = .ok (.aload_n 0, 1) := by decide +kernel
theorem dX12_isLog_6 : decode cX12_isLog 6 = .ok (.getfield 303, 3) := by decide +kernel
theorem dX12_isLog_9 : decode cX12_isLog 9 = .ok (.if_icmp .ge 7, 3) := by decide +kernel
theorem dX12_isLog_12 : decode cX12_isLog 12 = .ok (.iconst 1, 1) := by decide +kernel
theorem dX12_isLog_13 : decode cX12_isLog 13 = .ok (.goto 4, 3) := by decide +kernel
theorem dX12_isLog_16 : decode cX12_isLog 16 = .ok (.iconst 0, 1) := by decide +kernel
theorem dX12_isLog_17 : decode cX12_isLog 17 = .ok (.ireturn, 1) := by decide +kernel
def wX12_isLog (l1 : Int32) (μ : km_S) (Q : Int32 → km_S → Prop) : Prop := ((l1 < 0 → Q 0 μ) ∧
  (¬ (l1 < 0) → (((km_i μ 4) ≤ l1 → Q 0 μ) ∧
    (¬ ((km_i μ 4) ≤ l1) → Q 1 μ))))
set_option maxRecDepth 100000 in
set_option maxHeartbeats 4000000 in
theorem hc_X12_isLog (l : Launch) (G : km_G) (l1 : Int32) (μ : km_S) (Q : Int32 → km_S → Prop) (h : wX12_isLog l1 μ Q) : km_M l G yX12_isLog cX12_isLog 2 (some .boolean) (0) (0) [.ref (G.1 0), .int l1] μ (km_Qi G Q) := by
  refine km_enter (by decide) rfl (Nat.le_of_ble_eq_true rfl) ?_
  intro p e s m below meth c ls F hr hlocks C hl
  have hl : lv_has ls 2 [(0, .ref (G.1 0)), (1, .int l1)] := hl
  obtain ⟨H, eH⟩ : ∃ z9, z9 = s.heap := ⟨_, rfl⟩
  obtain ⟨locs, eL⟩ : ∃ z9 : List Loc, z9 = [] := ⟨_, rfl⟩
  rw [← eH, ← eL] at C
  rw [← eH, ← eL]
  refine lv_iload_n F.1 F.2.1 dX12_isLog_0 rfl (lv_at hl 1 rfl) ?_
  refine lv_if_lt (tgt := 16) F.1 F.2.1 dX12_isLog_1 (by decide) (fun c1 => ?_) (fun c1 => ?_)
  · have h := h.1 c1
    refine lv_iconst (v := 0) F.1 F.2.1 dX12_isLog_16 (by decide) ?_
    exact km_zret F C hr hlocks rfl h dX12_isLog_17
  · have h := h.2 c1
    refine lv_iload_n F.1 F.2.1 dX12_isLog_4 rfl (lv_at hl 1 rfl) ?_
    refine lv_aload_n F.1 F.2.1 dX12_isLog_5 rfl (lv_at hl 0 rfl) ?_
    refine kg_logs F C dX12_isLog_6 ?_
    refine lv_icmp_ge (tgt := 16) F.1 F.2.1 dX12_isLog_9 (by decide) (fun c2 => ?_) (fun c2 => ?_)
    · have h := h.1 c2
      refine lv_iconst (v := 0) F.1 F.2.1 dX12_isLog_16 (by decide) ?_
      exact km_zret F C hr hlocks rfl h dX12_isLog_17
    · have h := h.2 c2
      refine lv_iconst (v := 1) F.1 F.2.1 dX12_isLog_12 (by decide) ?_
      refine lv_goto (tgt := 17) F.1 F.2.1 dX12_isLog_13 (by decide) ?_
      exact km_zret F C hr hlocks rfl h dX12_isLog_17
section
variable {p : Program} {l : Launch} {e : Env} {R : Room} {s : State} {m : MethodId} {args : Array Value} {below : List Frame} {meth : Method} {c : Code} {H : Heap} {locs : List Loc} {Q : State → Prop}
variable {cc : ByteArray} {pc nL : Nat} {ls : Array Slot} {rest : List Value} {G : km_G} {μ : km_S}
theorem kc_X12_isLog (F : CallFix p m c cc nL s args kt_ RX12) (C : km_X G s H locs μ) {P : Int32 → km_S → Prop} {l1 : Int32} (h : wX12_isLog l1 μ P) (h1 : (0) + 1 ≤ R.frames) (h2 : 8 + (2 + 11) + (0) ≤ R.locals) (hsz : ls.size = nL) (hW : (rest.map fun v => v.category).sum ≤ 8) (hdg : decode cc pc = .ok (.invokevirtual 311, 3)) (kk : ∀ (r : Int32) (μ' : km_S) (H1 : Heap) (locs1 : List Loc), P r μ' → km_X G s H1 locs1 μ' → W p l e R s m args below meth c H1 locs1 0 0 Q (F0 m (pc + 3) ls (.int r :: rest))) : W p l e R s m args below meth c H locs 0 0 Q (F0 m pc ls (.int l1 :: .ref (G.1 0) :: rest)) :=
  km_cVi (n := 1) (As := [.int l1]) F C (hc_X12_isLog l G l1 μ P h) (kt_V tw_160 tw_161 tw_162 tw_151 tw_163) (by decide +kernel) ⟨h1, h2⟩ rfl hsz hW hdg kk
end
theorem dX12_isCell_0 : decode cX12_isCell 0 = .ok (.aload_n 0, 1) := by decide +kernel
theorem dX12_isCell_1 : decode cX12_isCell 1 = .ok (.iload_n 1, 1) := by decide +kernel
theorem dX12_isCell_2 : decode cX12_isCell 2 = .ok (.invokevirtual 179, 3) := by decide +kernel
theorem dX12_isCell_5 : decode cX12_isCell 5 = .ok (.ifCond .eq 21, 3) := by decide +kernel
theorem dX12_isCell_8 : decode cX12_isCell 8 = .ok (.iload_n 2, 1) := by decide +kernel
theorem dX12_isCell_9 : decode cX12_isCell 9 = .ok (.ifCond .lt 17, 3) := by decide +kernel
theorem dX12_isCell_12 : decode cX12_isCell 12 = .ok (.iload_n 2, 1) := by decide +kernel
theorem dX12_isCell_13 : decode cX12_isCell 13 = .ok (.aload_n 0, 1) := by decide +kernel
theorem dX12_isCell_14 : decode cX12_isCell 14 = .ok (.getfield 37, 3) := by decide +kernel
theorem dX12_isCell_17 : decode cX12_isCell 17 = .ok (.iload_n 1, 1) := by decide +kernel
theorem dX12_isCell_18 : decode cX12_isCell 18 = .ok (.iaload, 1) := by decide +kernel
theorem dX12_isCell_19 : decode cX12_isCell 19 = .ok (.if_icmp .ge 7, 3) := by decide +kernel
theorem dX12_isCell_22 : decode cX12_isCell 22 = .ok (.iconst 1, 1) := by decide +kernel
theorem dX12_isCell_23 : decode cX12_isCell 23 = .ok (.goto 4, 3) := by decide +kernel
theorem dX12_isCell_26 : decode cX12_isCell 26 = .ok (.iconst 0, 1) := by decide +kernel
theorem dX12_isCell_27 : decode cX12_isCell 27 = .ok (.ireturn, 1) := by decide +kernel
def wX12_isCell (l1 : Int32) (l2 : Int32) (μ : km_S) (Q : Int32 → km_S → Prop) : Prop := wX12_isReach l1 μ fun r2 μ1 => ((r2 = 0 → Q 0 μ1) ∧
  (¬ (r2 = 0) → ((l2 < 0 → Q 0 μ1) ∧
    (¬ (l2 < 0) → vp_in l1 10 ∧ (((km_a μ1 14 l1.toNatClampNeg) ≤ l2 → Q 0 μ1) ∧
      (¬ ((km_a μ1 14 l1.toNatClampNeg) ≤ l2) → Q 1 μ1))))))
set_option maxRecDepth 100000 in
set_option maxHeartbeats 4000000 in
theorem hc_X12_isCell (l : Launch) (G : km_G) (l1 : Int32) (l2 : Int32) (μ : km_S) (Q : Int32 → km_S → Prop) (h : wX12_isCell l1 l2 μ Q) : km_M l G yX12_isCell cX12_isCell 3 (some .boolean) (1) (21) [.ref (G.1 0), .int l1, .int l2] μ (km_Qi G Q) := by
  refine km_enter (by decide) rfl (Nat.le_of_ble_eq_true rfl) ?_
  intro p e s m below meth c ls F hr hlocks C hl
  have hl : lv_has ls 3 [(0, .ref (G.1 0)), (1, .int l1), (2, .int l2)] := hl
  obtain ⟨H, eH⟩ : ∃ z9, z9 = s.heap := ⟨_, rfl⟩
  obtain ⟨locs, eL⟩ : ∃ z9 : List Loc, z9 = [] := ⟨_, rfl⟩
  rw [← eH, ← eL] at C
  rw [← eH, ← eL]
  refine lv_aload_n F.1 F.2.1 dX12_isCell_0 rfl (lv_at hl 0 rfl) ?_
  refine lv_iload_n F.1 F.2.1 dX12_isCell_1 rfl (lv_at hl 1 rfl) ?_
  refine kc_X12_isReach F C h (Nat.le_of_ble_eq_true rfl) (Nat.le_of_ble_eq_true rfl) hl.1 (by simp [Value.category]) dX12_isCell_2 (fun r2 μ1 H locs h C => ?_)
  refine lv_if_eq (tgt := 26) F.1 F.2.1 dX12_isCell_5 (by decide) (fun c3 => ?_) (fun c3 => ?_)
  · have h := h.1 c3
    refine lv_iconst (v := 0) F.1 F.2.1 dX12_isCell_26 (by decide) ?_
    exact km_zret F C hr hlocks rfl h dX12_isCell_27
  · have h := h.2 c3
    refine lv_iload_n F.1 F.2.1 dX12_isCell_8 rfl (lv_at hl 2 rfl) ?_
    refine lv_if_lt (tgt := 26) F.1 F.2.1 dX12_isCell_9 (by decide) (fun c4 => ?_) (fun c4 => ?_)
    · have h := h.1 c4
      refine lv_iconst (v := 0) F.1 F.2.1 dX12_isCell_26 (by decide) ?_
      exact km_zret F C hr hlocks rfl h dX12_isCell_27
    · have h := h.2 c4
      refine lv_iload_n F.1 F.2.1 dX12_isCell_12 rfl (lv_at hl 2 rfl) ?_
      refine lv_aload_n F.1 F.2.1 dX12_isCell_13 rfl (lv_at hl 0 rfl) ?_
      refine kg_length F C dX12_isCell_14 ?_
      refine lv_iload_n F.1 F.2.1 dX12_isCell_17 rfl (lv_at hl 1 rfl) ?_
      obtain ⟨hn5, h⟩ := h
      refine kl_length F C hn5 dX12_isCell_18 ?_
      refine lv_icmp_ge (tgt := 26) F.1 F.2.1 dX12_isCell_19 (by decide) (fun c6 => ?_) (fun c6 => ?_)
      · have h := h.1 c6
        refine lv_iconst (v := 0) F.1 F.2.1 dX12_isCell_26 (by decide) ?_
        exact km_zret F C hr hlocks rfl h dX12_isCell_27
      · have h := h.2 c6
        refine lv_iconst (v := 1) F.1 F.2.1 dX12_isCell_22 (by decide) ?_
        refine lv_goto (tgt := 27) F.1 F.2.1 dX12_isCell_23 (by decide) ?_
        exact km_zret F C hr hlocks rfl h dX12_isCell_27
section
variable {p : Program} {l : Launch} {e : Env} {R : Room} {s : State} {m : MethodId} {args : Array Value} {below : List Frame} {meth : Method} {c : Code} {H : Heap} {locs : List Loc} {Q : State → Prop}
variable {cc : ByteArray} {pc nL : Nat} {ls : Array Slot} {rest : List Value} {G : km_G} {μ : km_S}
theorem kc_X12_isCell (F : CallFix p m c cc nL s args kt_ RX12) (C : km_X G s H locs μ) {P : Int32 → km_S → Prop} {l1 : Int32} {l2 : Int32} (h : wX12_isCell l1 l2 μ P) (h1 : (1) + 1 ≤ R.frames) (h2 : 8 + (3 + 11) + (21) ≤ R.locals) (hsz : ls.size = nL) (hW : (rest.map fun v => v.category).sum ≤ 8) (hdg : decode cc pc = .ok (.invokevirtual 314, 3)) (kk : ∀ (r : Int32) (μ' : km_S) (H1 : Heap) (locs1 : List Loc), P r μ' → km_X G s H1 locs1 μ' → W p l e R s m args below meth c H1 locs1 0 0 Q (F0 m (pc + 3) ls (.int r :: rest))) : W p l e R s m args below meth c H locs 0 0 Q (F0 m pc ls (.int l2 :: .int l1 :: .ref (G.1 0) :: rest)) :=
  km_cVi (n := 2) (As := [.int l1, .int l2]) F C (hc_X12_isCell l G l1 l2 μ P h) (kt_V tw_164 tw_165 tw_166 tw_151 tw_167) (by decide +kernel) ⟨h1, h2⟩ rfl hsz hW hdg kk
end
theorem dX12_isLetter_0 : decode cX12_isLetter 0 = .ok (.iload_n 0, 1) := by decide +kernel
theorem dX12_isLetter_1 : decode cX12_isLetter 1 = .ok (.bipush 97, 2) := by decide +kernel
theorem dX12_isLetter_3 : decode cX12_isLetter 3 = .ok (.if_icmp .lt 13, 3) := by decide +kernel
theorem dX12_isLetter_6 : decode cX12_isLetter 6 = .ok (.iload_n 0, 1) := by decide +kernel
theorem dX12_isLetter_7 : decode cX12_isLetter 7 = .ok (.bipush 122, 2) := by decide +kernel
theorem dX12_isLetter_9 : decode cX12_isLetter 9 = .ok (.if_icmp .gt 7, 3) := by decide +kernel
theorem dX12_isLetter_12 : decode cX12_isLetter 12 = .ok (.iconst 1, 1) := by decide +kernel
theorem dX12_isLetter_13 : decode cX12_isLetter 13 = .ok (.goto 4, 3) := by decide +kernel
theorem dX12_isLetter_16 : decode cX12_isLetter 16 = .ok (.iconst 0, 1) := by decide +kernel
theorem dX12_isLetter_17 : decode cX12_isLetter 17 = .ok (.ireturn, 1) := by decide +kernel
def wX12_isLetter (l0 : Int32) (μ : km_S) (Q : Int32 → km_S → Prop) : Prop := ((l0 < 97 → Q 0 μ) ∧
  (¬ (l0 < 97) → ((122 < l0 → Q 0 μ) ∧
    (¬ (122 < l0) → Q 1 μ))))
set_option maxRecDepth 100000 in
set_option maxHeartbeats 4000000 in
theorem hc_X12_isLetter (l : Launch) (G : km_G) (l0 : Int32) (μ : km_S) (Q : Int32 → km_S → Prop) (h : wX12_isLetter l0 μ Q) : km_M l G yX12_isLetter cX12_isLetter 1 (some .boolean) (0) (0) [.int l0] μ (km_Qi G Q) := by
  refine km_enter (by decide) rfl (Nat.le_of_ble_eq_true rfl) ?_
  intro p e s m below meth c ls F hr hlocks C hl
  have hl : lv_has ls 1 [(0, .int l0)] := hl
  obtain ⟨H, eH⟩ : ∃ z9, z9 = s.heap := ⟨_, rfl⟩
  obtain ⟨locs, eL⟩ : ∃ z9 : List Loc, z9 = [] := ⟨_, rfl⟩
  rw [← eH, ← eL] at C
  rw [← eH, ← eL]
  refine lv_iload_n F.1 F.2.1 dX12_isLetter_0 rfl (lv_at hl 0 rfl) ?_
  refine lv_bipush (v := 97) F.1 F.2.1 dX12_isLetter_1 (by decide) ?_
  refine lv_icmp_lt (tgt := 16) F.1 F.2.1 dX12_isLetter_3 (by decide) (fun c1 => ?_) (fun c1 => ?_)
  · have h := h.1 c1
    refine lv_iconst (v := 0) F.1 F.2.1 dX12_isLetter_16 (by decide) ?_
    exact km_zret F C hr hlocks rfl h dX12_isLetter_17
  · have h := h.2 c1
    refine lv_iload_n F.1 F.2.1 dX12_isLetter_6 rfl (lv_at hl 0 rfl) ?_
    refine lv_bipush (v := 122) F.1 F.2.1 dX12_isLetter_7 (by decide) ?_
    refine lv_icmp_gt (tgt := 16) F.1 F.2.1 dX12_isLetter_9 (by decide) (fun c2 => ?_) (fun c2 => ?_)
    · have h := h.1 c2
      refine lv_iconst (v := 0) F.1 F.2.1 dX12_isLetter_16 (by decide) ?_
      exact km_zret F C hr hlocks rfl h dX12_isLetter_17
    · have h := h.2 c2
      refine lv_iconst (v := 1) F.1 F.2.1 dX12_isLetter_12 (by decide) ?_
      refine lv_goto (tgt := 17) F.1 F.2.1 dX12_isLetter_13 (by decide) ?_
      exact km_zret F C hr hlocks rfl h dX12_isLetter_17
section
variable {p : Program} {l : Launch} {e : Env} {R : Room} {s : State} {m : MethodId} {args : Array Value} {below : List Frame} {meth : Method} {c : Code} {H : Heap} {locs : List Loc} {Q : State → Prop}
variable {cc : ByteArray} {pc nL : Nat} {ls : Array Slot} {rest : List Value} {G : km_G} {μ : km_S}
theorem kc_X12_isLetter (F : CallFix p m c cc nL s args kt_ RX12) (C : km_X G s H locs μ) {P : Int32 → km_S → Prop} {l0 : Int32} (h : wX12_isLetter l0 μ P) (h1 : (0) + 1 ≤ R.frames) (h2 : 8 + (1 + 11) + (0) ≤ R.locals) (hsz : ls.size = nL) (hW : (rest.map fun v => v.category).sum ≤ 8) (hdg : decode cc pc = .ok (.invokestatic 217, 3)) (kk : ∀ (r : Int32) (μ' : km_S) (H1 : Heap) (locs1 : List Loc), P r μ' → km_X G s H1 locs1 μ' → W p l e R s m args below meth c H1 locs1 0 0 Q (F0 m (pc + 3) ls (.int r :: rest))) : W p l e R s m args below meth c H locs 0 0 Q (F0 m pc ls (.int l0 :: rest)) :=
  km_cSi (n := 1) (As := [.int l0]) F C (hc_X12_isLetter l G l0 μ P h) (kt_S tw_168 tw_169 tw_151 tw_170) (by decide +kernel) ⟨h1, h2⟩ rfl hsz hW hdg kk
end
theorem dX12_isDigit_0 : decode cX12_isDigit 0 = .ok (.iload_n 0, 1) := by decide +kernel
theorem dX12_isDigit_1 : decode cX12_isDigit 1 = .ok (.bipush 48, 2) := by decide +kernel
theorem dX12_isDigit_3 : decode cX12_isDigit 3 = .ok (.if_icmp .lt 13, 3) := by decide +kernel
theorem dX12_isDigit_6 : decode cX12_isDigit 6 = .ok (.iload_n 0, 1) := by decide +kernel
theorem dX12_isDigit_7 : decode cX12_isDigit 7 = .ok (.bipush 57, 2) := by decide +kernel
theorem dX12_isDigit_9 : decode cX12_isDigit 9 = .ok (.if_icmp .gt 7, 3) := by decide +kernel
theorem dX12_isDigit_12 : decode cX12_isDigit 12 = .ok (.iconst 1, 1) := by decide +kernel
theorem dX12_isDigit_13 : decode cX12_isDigit 13 = .ok (.goto 4, 3) := by decide +kernel
theorem dX12_isDigit_16 : decode cX12_isDigit 16 = .ok (.iconst 0, 1) := by decide +kernel
theorem dX12_isDigit_17 : decode cX12_isDigit 17 = .ok (.ireturn, 1) := by decide +kernel
def wX12_isDigit (l0 : Int32) (μ : km_S) (Q : Int32 → km_S → Prop) : Prop := ((l0 < 48 → Q 0 μ) ∧
  (¬ (l0 < 48) → ((57 < l0 → Q 0 μ) ∧
    (¬ (57 < l0) → Q 1 μ))))
set_option maxRecDepth 100000 in
set_option maxHeartbeats 4000000 in
theorem hc_X12_isDigit (l : Launch) (G : km_G) (l0 : Int32) (μ : km_S) (Q : Int32 → km_S → Prop) (h : wX12_isDigit l0 μ Q) : km_M l G yX12_isDigit cX12_isDigit 1 (some .boolean) (0) (0) [.int l0] μ (km_Qi G Q) := by
  refine km_enter (by decide) rfl (Nat.le_of_ble_eq_true rfl) ?_
  intro p e s m below meth c ls F hr hlocks C hl
  have hl : lv_has ls 1 [(0, .int l0)] := hl
  obtain ⟨H, eH⟩ : ∃ z9, z9 = s.heap := ⟨_, rfl⟩
  obtain ⟨locs, eL⟩ : ∃ z9 : List Loc, z9 = [] := ⟨_, rfl⟩
  rw [← eH, ← eL] at C
  rw [← eH, ← eL]
  refine lv_iload_n F.1 F.2.1 dX12_isDigit_0 rfl (lv_at hl 0 rfl) ?_
  refine lv_bipush (v := 48) F.1 F.2.1 dX12_isDigit_1 (by decide) ?_
  refine lv_icmp_lt (tgt := 16) F.1 F.2.1 dX12_isDigit_3 (by decide) (fun c1 => ?_) (fun c1 => ?_)
  · have h := h.1 c1
    refine lv_iconst (v := 0) F.1 F.2.1 dX12_isDigit_16 (by decide) ?_
    exact km_zret F C hr hlocks rfl h dX12_isDigit_17
  · have h := h.2 c1
    refine lv_iload_n F.1 F.2.1 dX12_isDigit_6 rfl (lv_at hl 0 rfl) ?_
    refine lv_bipush (v := 57) F.1 F.2.1 dX12_isDigit_7 (by decide) ?_
    refine lv_icmp_gt (tgt := 16) F.1 F.2.1 dX12_isDigit_9 (by decide) (fun c2 => ?_) (fun c2 => ?_)
    · have h := h.1 c2
      refine lv_iconst (v := 0) F.1 F.2.1 dX12_isDigit_16 (by decide) ?_
      exact km_zret F C hr hlocks rfl h dX12_isDigit_17
    · have h := h.2 c2
      refine lv_iconst (v := 1) F.1 F.2.1 dX12_isDigit_12 (by decide) ?_
      refine lv_goto (tgt := 17) F.1 F.2.1 dX12_isDigit_13 (by decide) ?_
      exact km_zret F C hr hlocks rfl h dX12_isDigit_17
section
variable {p : Program} {l : Launch} {e : Env} {R : Room} {s : State} {m : MethodId} {args : Array Value} {below : List Frame} {meth : Method} {c : Code} {H : Heap} {locs : List Loc} {Q : State → Prop}
variable {cc : ByteArray} {pc nL : Nat} {ls : Array Slot} {rest : List Value} {G : km_G} {μ : km_S}
theorem kc_X12_isDigit (F : CallFix p m c cc nL s args kt_ RX12) (C : km_X G s H locs μ) {P : Int32 → km_S → Prop} {l0 : Int32} (h : wX12_isDigit l0 μ P) (h1 : (0) + 1 ≤ R.frames) (h2 : 8 + (1 + 11) + (0) ≤ R.locals) (hsz : ls.size = nL) (hW : (rest.map fun v => v.category).sum ≤ 8) (hdg : decode cc pc = .ok (.invokestatic 220, 3)) (kk : ∀ (r : Int32) (μ' : km_S) (H1 : Heap) (locs1 : List Loc), P r μ' → km_X G s H1 locs1 μ' → W p l e R s m args below meth c H1 locs1 0 0 Q (F0 m (pc + 3) ls (.int r :: rest))) : W p l e R s m args below meth c H locs 0 0 Q (F0 m pc ls (.int l0 :: rest)) :=
  km_cSi (n := 1) (As := [.int l0]) F C (hc_X12_isDigit l G l0 μ P h) (kt_S tw_171 tw_172 tw_151 tw_173) (by decide +kernel) ⟨h1, h2⟩ rfl hsz hW hdg kk
end
theorem dX12_byteAt_0 : decode cX12_byteAt 0 = .ok (.iload_n 1, 1) := by decide +kernel
theorem dX12_byteAt_1 : decode cX12_byteAt 1 = .ok (.aload_n 0, 1) := by decide +kernel
theorem dX12_byteAt_2 : decode cX12_byteAt 2 = .ok (.getfield 198, 3) := by decide +kernel
theorem dX12_byteAt_5 : decode cX12_byteAt 5 = .ok (.if_icmp .ge 12, 3) := by decide +kernel
theorem dX12_byteAt_8 : decode cX12_byteAt 8 = .ok (.aload_n 0, 1) := by decide +kernel
theorem dX12_byteAt_9 : decode cX12_byteAt 9 = .ok (.getfield 149, 3) := by decide +kernel
theorem dX12_byteAt_12 : decode cX12_byteAt 12 = .ok (.iload_n 1, 1) := by decide +kernel
theorem dX12_byteAt_13 : decode cX12_byteAt 13 = .ok (.iaload, 1) := by decide +kernel
theorem dX12_byteAt_14 : decode cX12_byteAt 14 = .ok (.goto 4, 3) := by decide +kernel
theorem dX12_byteAt_17 : decode cX12_byteAt 17 = .ok (.iconst (-1), 1) := by decide +kernel
theorem dX12_byteAt_18 : decode cX12_byteAt 18 = .ok (.ireturn, 1) := by decide +kernel
def wX12_byteAt (l1 : Int32) (μ : km_S) (Q : Int32 → km_S → Prop) : Prop := (((km_i μ 61) ≤ l1 → Q (-1) μ) ∧
  (¬ ((km_i μ 61) ≤ l1) → vp_in l1 500 ∧ Q (km_a μ 52 l1.toNatClampNeg) μ))
set_option maxRecDepth 100000 in
set_option maxHeartbeats 4000000 in
theorem hc_X12_byteAt (l : Launch) (G : km_G) (l1 : Int32) (μ : km_S) (Q : Int32 → km_S → Prop) (h : wX12_byteAt l1 μ Q) : km_M l G yX12_byteAt cX12_byteAt 2 (some .int) (0) (0) [.ref (G.1 0), .int l1] μ (km_Qi G Q) := by
  refine km_enter (by decide) rfl (Nat.le_of_ble_eq_true rfl) ?_
  intro p e s m below meth c ls F hr hlocks C hl
  have hl : lv_has ls 2 [(0, .ref (G.1 0)), (1, .int l1)] := hl
  obtain ⟨H, eH⟩ : ∃ z9, z9 = s.heap := ⟨_, rfl⟩
  obtain ⟨locs, eL⟩ : ∃ z9 : List Loc, z9 = [] := ⟨_, rfl⟩
  rw [← eH, ← eL] at C
  rw [← eH, ← eL]
  refine lv_iload_n F.1 F.2.1 dX12_byteAt_0 rfl (lv_at hl 1 rfl) ?_
  refine lv_aload_n F.1 F.2.1 dX12_byteAt_1 rfl (lv_at hl 0 rfl) ?_
  refine kg_read F C dX12_byteAt_2 ?_
  refine lv_icmp_ge (tgt := 17) F.1 F.2.1 dX12_byteAt_5 (by decide) (fun c1 => ?_) (fun c1 => ?_)
  · have h := h.1 c1
    refine lv_iconst (v := (-1)) F.1 F.2.1 dX12_byteAt_17 (by decide) ?_
    exact km_iret F C hr hlocks h dX12_byteAt_18
  · have h := h.2 c1
    refine lv_aload_n F.1 F.2.1 dX12_byteAt_8 rfl (lv_at hl 0 rfl) ?_
    refine kg_tape F C dX12_byteAt_9 ?_
    refine lv_iload_n F.1 F.2.1 dX12_byteAt_12 rfl (lv_at hl 1 rfl) ?_
    obtain ⟨hn2, h⟩ := h
    refine kl_tape F C hn2 dX12_byteAt_13 ?_
    refine lv_goto (tgt := 18) F.1 F.2.1 dX12_byteAt_14 (by decide) ?_
    exact km_iret F C hr hlocks h dX12_byteAt_18
section
variable {p : Program} {l : Launch} {e : Env} {R : Room} {s : State} {m : MethodId} {args : Array Value} {below : List Frame} {meth : Method} {c : Code} {H : Heap} {locs : List Loc} {Q : State → Prop}
variable {cc : ByteArray} {pc nL : Nat} {ls : Array Slot} {rest : List Value} {G : km_G} {μ : km_S}
theorem kc_X12_byteAt (F : CallFix p m c cc nL s args kt_ RX12) (C : km_X G s H locs μ) {P : Int32 → km_S → Prop} {l1 : Int32} (h : wX12_byteAt l1 μ P) (h1 : (0) + 1 ≤ R.frames) (h2 : 8 + (2 + 11) + (0) ≤ R.locals) (hsz : ls.size = nL) (hW : (rest.map fun v => v.category).sum ≤ 8) (hdg : decode cc pc = .ok (.invokevirtual 204, 3)) (kk : ∀ (r : Int32) (μ' : km_S) (H1 : Heap) (locs1 : List Loc), P r μ' → km_X G s H1 locs1 μ' → W p l e R s m args below meth c H1 locs1 0 0 Q (F0 m (pc + 3) ls (.int r :: rest))) : W p l e R s m args below meth c H locs 0 0 Q (F0 m pc ls (.int l1 :: .ref (G.1 0) :: rest)) :=
  km_cVi (n := 1) (As := [.int l1]) F C (hc_X12_byteAt l G l1 μ P h) (kt_V tw_174 tw_175 tw_176 tw_151 tw_177) (by decide +kernel) ⟨h1, h2⟩ rfl hsz hW hdg kk
end
theorem dX12_isSign_0 : decode cX12_isSign 0 = .ok (.aload_n 0, 1) := by decide +kernel
theorem dX12_isSign_1 : decode cX12_isSign 1 = .ok (.getfield 214, 3) := by decide +kernel
theorem dX12_isSign_4 : decode cX12_isSign 4 = .ok (.iconst 3, 1) := by decide +kernel
theorem dX12_isSign_5 : decode cX12_isSign 5 = .ok (.if_icmp .ne 15, 3) := by decide +kernel
theorem dX12_isSign_8 : decode cX12_isSign 8 = .ok (.aload_n 0, 1) := by decide +kernel
theorem dX12_isSign_9 : decode cX12_isSign 9 = .ok (.getfield 211, 3) := by decide +kernel
theorem dX12_isSign_12 : decode cX12_isSign 12 = .ok (.iload_n 1, 1) := by decide +kernel
theorem dX12_isSign_13 : decode cX12_isSign 13 = .ok (.if_icmp .ne 7, 3) := by decide +kernel
theorem dX12_isSign_16 : decode cX12_isSign 16 = .ok (.iconst 1, 1) := by decide +kernel
theorem dX12_isSign_17 : decode cX12_isSign 17 = .ok (.goto 4, 3) := by decide +kernel
theorem dX12_isSign_20 : decode cX12_isSign 20 = .ok (.iconst 0, 1) := by decide +kernel
theorem dX12_isSign_21 : decode cX12_isSign 21 = .ok (.ireturn, 1) := by decide +kernel
def wX12_isSign (l1 : Int32) (μ : km_S) (Q : Int32 → km_S → Prop) : Prop := ((¬ (km_i μ 62) = 3 → Q 0 μ) ∧
  ((km_i μ 62) = 3 → ((¬ (km_i μ 63) = l1 → Q 0 μ) ∧
    ((km_i μ 63) = l1 → Q 1 μ))))
set_option maxRecDepth 100000 in
set_option maxHeartbeats 4000000 in
theorem hc_X12_isSign (l : Launch) (G : km_G) (l1 : Int32) (μ : km_S) (Q : Int32 → km_S → Prop) (h : wX12_isSign l1 μ Q) : km_M l G yX12_isSign cX12_isSign 2 (some .boolean) (0) (0) [.ref (G.1 0), .int l1] μ (km_Qi G Q) := by
  refine km_enter (by decide) rfl (Nat.le_of_ble_eq_true rfl) ?_
  intro p e s m below meth c ls F hr hlocks C hl
  have hl : lv_has ls 2 [(0, .ref (G.1 0)), (1, .int l1)] := hl
  obtain ⟨H, eH⟩ : ∃ z9, z9 = s.heap := ⟨_, rfl⟩
  obtain ⟨locs, eL⟩ : ∃ z9 : List Loc, z9 = [] := ⟨_, rfl⟩
  rw [← eH, ← eL] at C
  rw [← eH, ← eL]
  refine lv_aload_n F.1 F.2.1 dX12_isSign_0 rfl (lv_at hl 0 rfl) ?_
  refine kg_token F C dX12_isSign_1 ?_
  refine lv_iconst (v := 3) F.1 F.2.1 dX12_isSign_4 (by decide) ?_
  refine lv_icmp_ne (tgt := 20) F.1 F.2.1 dX12_isSign_5 (by decide) (fun c1 => ?_) (fun c1 => ?_)
  · have h := h.1 c1
    refine lv_iconst (v := 0) F.1 F.2.1 dX12_isSign_20 (by decide) ?_
    exact km_zret F C hr hlocks rfl h dX12_isSign_21
  · have h := h.2 c1
    refine lv_aload_n F.1 F.2.1 dX12_isSign_8 rfl (lv_at hl 0 rfl) ?_
    refine kg_sign F C dX12_isSign_9 ?_
    refine lv_iload_n F.1 F.2.1 dX12_isSign_12 rfl (lv_at hl 1 rfl) ?_
    refine lv_icmp_ne (tgt := 20) F.1 F.2.1 dX12_isSign_13 (by decide) (fun c2 => ?_) (fun c2 => ?_)
    · have h := h.1 c2
      refine lv_iconst (v := 0) F.1 F.2.1 dX12_isSign_20 (by decide) ?_
      exact km_zret F C hr hlocks rfl h dX12_isSign_21
    · have h := h.2 c2
      refine lv_iconst (v := 1) F.1 F.2.1 dX12_isSign_16 (by decide) ?_
      refine lv_goto (tgt := 21) F.1 F.2.1 dX12_isSign_17 (by decide) ?_
      exact km_zret F C hr hlocks rfl h dX12_isSign_21
section
variable {p : Program} {l : Launch} {e : Env} {R : Room} {s : State} {m : MethodId} {args : Array Value} {below : List Frame} {meth : Method} {c : Code} {H : Heap} {locs : List Loc} {Q : State → Prop}
variable {cc : ByteArray} {pc nL : Nat} {ls : Array Slot} {rest : List Value} {G : km_G} {μ : km_S}
theorem kc_X12_isSign (F : CallFix p m c cc nL s args kt_ RX12) (C : km_X G s H locs μ) {P : Int32 → km_S → Prop} {l1 : Int32} (h : wX12_isSign l1 μ P) (h1 : (0) + 1 ≤ R.frames) (h2 : 8 + (2 + 11) + (0) ≤ R.locals) (hsz : ls.size = nL) (hW : (rest.map fun v => v.category).sum ≤ 8) (hdg : decode cc pc = .ok (.invokevirtual 262, 3)) (kk : ∀ (r : Int32) (μ' : km_S) (H1 : Heap) (locs1 : List Loc), P r μ' → km_X G s H1 locs1 μ' → W p l e R s m args below meth c H1 locs1 0 0 Q (F0 m (pc + 3) ls (.int r :: rest))) : W p l e R s m args below meth c H locs 0 0 Q (F0 m pc ls (.int l1 :: .ref (G.1 0) :: rest)) :=
  km_cVi (n := 1) (As := [.int l1]) F C (hc_X12_isSign l G l1 μ P h) (kt_V tw_178 tw_179 tw_180 tw_151 tw_181) (by decide +kernel) ⟨h1, h2⟩ rfl hsz hW hdg kk
end
theorem dX12_wrong_0 : decode cX12_wrong 0 = .ok (.aload_n 0, 1) := by decide +kernel
theorem dX12_wrong_1 : decode cX12_wrong 1 = .ok (.getfield 232, 3) := by decide +kernel
theorem dX12_wrong_4 : decode cX12_wrong 4 = .ok (.ifCond .eq 4, 3) := by decide +kernel
theorem dX12_wrong_7 : decode cX12_wrong 7 = .ok (.return_, 1) := by decide +kernel
theorem dX12_wrong_8 : decode cX12_wrong 8 = .ok (.aload_n 0, 1) := by decide +kernel
theorem dX12_wrong_9 : decode cX12_wrong 9 = .ok (.iload_n 1, 1) := by decide +kernel
theorem dX12_wrong_10 : decode cX12_wrong 10 = .ok (.putfield 232, 3) := by decide +kernel
theorem dX12_wrong_13 : decode cX12_wrong 13 = .ok (.aload_n 0, 1) := by decide +kernel
theorem dX12_wrong_14 : decode cX12_wrong 14 = .ok (.aload_n 0, 1) := by decide +kernel
theorem dX12_wrong_15 : decode cX12_wrong 15 = .ok (.getfield 208, 3) := by decide +kernel
theorem dX12_wrong_18 : decode cX12_wrong 18 = .ok (.putfield 235, 3) := by decide +kernel
theorem dX12_wrong_21 : decode cX12_wrong 21 = .ok (.return_, 1) := by decide +kernel
def wX12_wrong (l1 : Int32) (μ : km_S) (Q : km_S → Prop) : Prop := (((km_i μ 66) = 0 → ∀ μ2, μ2 = km_si μ 66 l1 → ∀ μ3, μ3 = km_si μ2 67 (km_i μ2 64) → Q μ3) ∧
  (¬ ((km_i μ 66) = 0) → Q μ))
set_option maxRecDepth 100000 in
set_option maxHeartbeats 4000000 in
theorem hc_X12_wrong (l : Launch) (G : km_G) (l1 : Int32) (μ : km_S) (Q : km_S → Prop) (h : wX12_wrong l1 μ Q) : km_M l G yX12_wrong cX12_wrong 2 none (0) (0) [.ref (G.1 0), .int l1] μ (km_Qv G Q) := by
  refine km_enter (by decide) rfl (Nat.le_of_ble_eq_true rfl) ?_
  intro p e s m below meth c ls F hr hlocks C hl
  have hl : lv_has ls 2 [(0, .ref (G.1 0)), (1, .int l1)] := hl
  obtain ⟨H, eH⟩ : ∃ z9, z9 = s.heap := ⟨_, rfl⟩
  obtain ⟨locs, eL⟩ : ∃ z9 : List Loc, z9 = [] := ⟨_, rfl⟩
  rw [← eH, ← eL] at C
  rw [← eH, ← eL]
  refine lv_aload_n F.1 F.2.1 dX12_wrong_0 rfl (lv_at hl 0 rfl) ?_
  refine kg_bad F C dX12_wrong_1 ?_
  refine lv_if_eq (tgt := 8) F.1 F.2.1 dX12_wrong_4 (by decide) (fun c1 => ?_) (fun c1 => ?_)
  · have h := h.1 c1
    refine lv_aload_n F.1 F.2.1 dX12_wrong_8 rfl (lv_at hl 0 rfl) ?_
    refine lv_iload_n F.1 F.2.1 dX12_wrong_9 rfl (lv_at hl 1 rfl) ?_
    refine kp_bad F C dX12_wrong_10 (fun H locs C => ?_)
    generalize eμ2 : km_si μ 66 l1 = μ2 at C
    have h := h μ2 eμ2.symm
    refine lv_aload_n F.1 F.2.1 dX12_wrong_13 rfl (lv_at hl 0 rfl) ?_
    refine lv_aload_n F.1 F.2.1 dX12_wrong_14 rfl (lv_at hl 0 rfl) ?_
    refine kg_begins F C dX12_wrong_15 ?_
    refine kp_badPlace F C dX12_wrong_18 (fun H locs C => ?_)
    generalize eμ3 : km_si μ2 67 (km_i μ2 64) = μ3 at C
    have h := h μ3 eμ3.symm
    exact km_vret F C hr hlocks h dX12_wrong_21
  · have h := h.2 c1
    exact km_vret F C hr hlocks h dX12_wrong_7
section
variable {p : Program} {l : Launch} {e : Env} {R : Room} {s : State} {m : MethodId} {args : Array Value} {below : List Frame} {meth : Method} {c : Code} {H : Heap} {locs : List Loc} {Q : State → Prop}
variable {cc : ByteArray} {pc nL : Nat} {ls : Array Slot} {rest : List Value} {G : km_G} {μ : km_S}
theorem kc_X12_wrong (F : CallFix p m c cc nL s args kt_ RX12) (C : km_X G s H locs μ) {P : km_S → Prop} {l1 : Int32} (h : wX12_wrong l1 μ P) (h1 : (0) + 1 ≤ R.frames) (h2 : 8 + (2 + 11) + (0) ≤ R.locals) (hsz : ls.size = nL) (hW : (rest.map fun v => v.category).sum ≤ 8) (hdg : decode cc pc = .ok (.invokevirtual 255, 3)) (kk : ∀ (μ' : km_S) (H1 : Heap) (locs1 : List Loc), P μ' → km_X G s H1 locs1 μ' → W p l e R s m args below meth c H1 locs1 0 0 Q (F0 m (pc + 3) ls rest)) : W p l e R s m args below meth c H locs 0 0 Q (F0 m pc ls (.int l1 :: .ref (G.1 0) :: rest)) :=
  km_cVv (n := 1) (As := [.int l1]) F C (hc_X12_wrong l G l1 μ P h) (kt_V tw_182 tw_183 tw_184 tw_151 tw_185) (by decide +kernel) ⟨h1, h2⟩ rfl hsz hW hdg kk
end
theorem dX12_emit_0 : decode cX12_emit 0 = .ok (.aload_n 0, 1) := by decide +kernel
theorem dX12_emit_1 : decode cX12_emit 1 = .ok (.getfield 232, 3) := by decide +kernel
theorem dX12_emit_4 : decode cX12_emit 4 = .ok (.ifCond .eq 4, 3) := by decide +kernel
theorem dX12_emit_7 : decode cX12_emit 7 = .ok (.return_, 1) := by decide +kernel
theorem dX12_emit_8 : decode cX12_emit 8 = .ok (.aload_n 0, 1) := by decide +kernel
theorem dX12_emit_9 : decode cX12_emit 9 = .ok (.getfield 161, 3) := by decide +kernel
theorem dX12_emit_12 : decode cX12_emit 12 = .ok (.sipush 900, 3) := by decide +kernel
theorem dX12_emit_15 : decode cX12_emit 15 = .ok (.aload_n 0, 1) := by decide +kernel
theorem dX12_emit_16 : decode cX12_emit 16 = .ok (.getfield 238, 3) := by decide +kernel
theorem dX12_emit_19 : decode cX12_emit 19 = .ok (.imul, 1) := by decide +kernel
theorem dX12_emit_20 : decode cX12_emit 20 = .ok (.aload_n 0, 1) := by decide +kernel
theorem dX12_emit_21 : decode cX12_emit 21 = .ok (.getfield 241, 3) := by decide +kernel
theorem dX12_emit_24 : decode cX12_emit 24 = .ok (.iadd, 1) := by decide +kernel
theorem dX12_emit_25 : decode cX12_emit 25 = .ok (.iload_n 1, 1) := by decide +kernel
theorem dX12_emit_26 : decode cX12_emit 26 = .ok (.iastore, 1) := by decide +kernel
theorem dX12_emit_27 : decode cX12_emit 27 = .ok (.aload_n 0, 1) := by decide +kernel
theorem dX12_emit_28 : decode cX12_emit 28 = .ok (.dup, 1) := by decide +kernel
theorem dX12_emit_29 : decode cX12_emit 29 = .ok (.getfield 241, 3) := by decide +kernel
theorem dX12_emit_32 : decode cX12_emit 32 = .ok (.iconst 1, 1) := by decide +kernel
theorem dX12_emit_33 : decode cX12_emit 33 = .ok (.iadd, 1) := by decide +kernel
theorem dX12_emit_34 : decode cX12_emit 34 = .ok (.putfield 241, 3) := by decide +kernel
theorem dX12_emit_37 : decode cX12_emit 37 = .ok (.return_, 1) := by decide +kernel
def wX12_emit (l1 : Int32) (μ : km_S) (Q : km_S → Prop) : Prop := (((km_i μ 66) = 0 → vp_in ((900 * (km_i μ 5)) + (km_i μ 59)) 5400 ∧ ∀ μ3, μ3 = km_sa μ 56 ((900 * (km_i μ 5)) + (km_i μ 59)).toNatClampNeg l1 → ∀ μ4, μ4 = km_si μ3 59 ((km_i μ3 59) + 1) → Q μ4) ∧
  (¬ ((km_i μ 66) = 0) → Q μ))
set_option maxRecDepth 100000 in
set_option maxHeartbeats 4000000 in
theorem hc_X12_emit (l : Launch) (G : km_G) (l1 : Int32) (μ : km_S) (Q : km_S → Prop) (h : wX12_emit l1 μ Q) : km_M l G yX12_emit cX12_emit 2 none (0) (0) [.ref (G.1 0), .int l1] μ (km_Qv G Q) := by
  refine km_enter (by decide) rfl (Nat.le_of_ble_eq_true rfl) ?_
  intro p e s m below meth c ls F hr hlocks C hl
  have hl : lv_has ls 2 [(0, .ref (G.1 0)), (1, .int l1)] := hl
  obtain ⟨H, eH⟩ : ∃ z9, z9 = s.heap := ⟨_, rfl⟩
  obtain ⟨locs, eL⟩ : ∃ z9 : List Loc, z9 = [] := ⟨_, rfl⟩
  rw [← eH, ← eL] at C
  rw [← eH, ← eL]
  refine lv_aload_n F.1 F.2.1 dX12_emit_0 rfl (lv_at hl 0 rfl) ?_
  refine kg_bad F C dX12_emit_1 ?_
  refine lv_if_eq (tgt := 8) F.1 F.2.1 dX12_emit_4 (by decide) (fun c1 => ?_) (fun c1 => ?_)
  · have h := h.1 c1
    refine lv_aload_n F.1 F.2.1 dX12_emit_8 rfl (lv_at hl 0 rfl) ?_
    refine kg_codeRow F C dX12_emit_9 ?_
    refine lv_sipush (v := 900) F.1 F.2.1 dX12_emit_12 (by decide) ?_
    refine lv_aload_n F.1 F.2.1 dX12_emit_15 rfl (lv_at hl 0 rfl) ?_
    refine kg_laws F C dX12_emit_16 ?_
    refine lv_imul (x := 900) (y := km_i μ 5) F.1 F.2.1 dX12_emit_19 ?_
    refine lv_aload_n F.1 F.2.1 dX12_emit_20 rfl (lv_at hl 0 rfl) ?_
    refine kg_codes F C dX12_emit_21 ?_
    refine lv_iadd (x := 900 * (km_i μ 5)) (y := km_i μ 59) F.1 F.2.1 dX12_emit_24 ?_
    refine lv_iload_n F.1 F.2.1 dX12_emit_25 rfl (lv_at hl 1 rfl) ?_
    obtain ⟨hn2, h⟩ := h
    refine kq_codeRow F C hn2 dX12_emit_26 (fun H locs C => ?_)
    generalize eμ3 : km_sa μ 56 ((900 * (km_i μ 5)) + (km_i μ 59)).toNatClampNeg l1 = μ3 at C
    have h := h μ3 eμ3.symm
    refine lv_aload_n F.1 F.2.1 dX12_emit_27 rfl (lv_at hl 0 rfl) ?_
    refine lv_dup F.1 F.2.1 dX12_emit_28 rfl ?_
    refine kg_codes F C dX12_emit_29 ?_
    refine lv_iconst (v := 1) F.1 F.2.1 dX12_emit_32 (by decide) ?_
    refine lv_iadd (x := km_i μ3 59) (y := 1) F.1 F.2.1 dX12_emit_33 ?_
    refine kp_codes F C dX12_emit_34 (fun H locs C => ?_)
    generalize eμ4 : km_si μ3 59 ((km_i μ3 59) + 1) = μ4 at C
    have h := h μ4 eμ4.symm
    exact km_vret F C hr hlocks h dX12_emit_37
  · have h := h.2 c1
    exact km_vret F C hr hlocks h dX12_emit_7
section
variable {p : Program} {l : Launch} {e : Env} {R : Room} {s : State} {m : MethodId} {args : Array Value} {below : List Frame} {meth : Method} {c : Code} {H : Heap} {locs : List Loc} {Q : State → Prop}
variable {cc : ByteArray} {pc nL : Nat} {ls : Array Slot} {rest : List Value} {G : km_G} {μ : km_S}
theorem kc_X12_emit (F : CallFix p m c cc nL s args kt_ RX12) (C : km_X G s H locs μ) {P : km_S → Prop} {l1 : Int32} (h : wX12_emit l1 μ P) (h1 : (0) + 1 ≤ R.frames) (h2 : 8 + (2 + 11) + (0) ≤ R.locals) (hsz : ls.size = nL) (hW : (rest.map fun v => v.category).sum ≤ 8) (hdg : decode cc pc = .ok (.invokevirtual 272, 3)) (kk : ∀ (μ' : km_S) (H1 : Heap) (locs1 : List Loc), P μ' → km_X G s H1 locs1 μ' → W p l e R s m args below meth c H1 locs1 0 0 Q (F0 m (pc + 3) ls rest)) : W p l e R s m args below meth c H locs 0 0 Q (F0 m pc ls (.int l1 :: .ref (G.1 0) :: rest)) :=
  km_cVv (n := 1) (As := [.int l1]) F C (hc_X12_emit l G l1 μ P h) (kt_V tw_186 tw_187 tw_188 tw_151 tw_189) (by decide +kernel) ⟨h1, h2⟩ rfl hsz hW hdg kk
end
theorem dX12_fault_0 : decode cX12_fault 0 = .ok (.aload_n 0, 1) := by decide +kernel
theorem dX12_fault_1 : decode cX12_fault 1 = .ok (.iconst 0, 1) := by decide +kernel
theorem dX12_fault_2 : decode cX12_fault 2 = .ok (.putfield 173, 3) := by decide +kernel
theorem dX12_fault_5 : decode cX12_fault 5 = .ok (.aload_n 0, 1) := by decide +kernel
theorem dX12_fault_6 : decode cX12_fault 6 = .ok (.getfield 29, 3) := by decide +kernel
theorem dX12_fault_9 : decode cX12_fault 9 = .ok (.ireturn, 1) := by decide +kernel
def wX12_fault (μ : km_S) (Q : Int32 → km_S → Prop) : Prop := ∀ μ1, μ1 = km_si μ 1 0 → Q (km_i μ1 10) μ1
set_option maxRecDepth 100000 in
set_option maxHeartbeats 4000000 in
theorem hc_X12_fault (l : Launch) (G : km_G) (μ : km_S) (Q : Int32 → km_S → Prop) (h : wX12_fault μ Q) : km_M l G yX12_fault cX12_fault 1 (some .int) (0) (0) [.ref (G.1 0)] μ (km_Qi G Q) := by
  refine km_enter (by decide) rfl (Nat.le_of_ble_eq_true rfl) ?_
  intro p e s m below meth c ls F hr hlocks C hl
  have hl : lv_has ls 1 [(0, .ref (G.1 0))] := hl
  obtain ⟨H, eH⟩ : ∃ z9, z9 = s.heap := ⟨_, rfl⟩
  obtain ⟨locs, eL⟩ : ∃ z9 : List Loc, z9 = [] := ⟨_, rfl⟩
  rw [← eH, ← eL] at C
  rw [← eH, ← eL]
  refine lv_aload_n F.1 F.2.1 dX12_fault_0 rfl (lv_at hl 0 rfl) ?_
  refine lv_iconst (v := 0) F.1 F.2.1 dX12_fault_1 (by decide) ?_
  refine kp_code F C dX12_fault_2 (fun H locs C => ?_)
  generalize eμ1 : km_si μ 1 0 = μ1 at C
  have h := h μ1 eμ1.symm
  refine lv_aload_n F.1 F.2.1 dX12_fault_5 rfl (lv_at hl 0 rfl) ?_
  refine kg_faultPlace F C dX12_fault_6 ?_
  exact km_iret F C hr hlocks h dX12_fault_9
section
variable {p : Program} {l : Launch} {e : Env} {R : Room} {s : State} {m : MethodId} {args : Array Value} {below : List Frame} {meth : Method} {c : Code} {H : Heap} {locs : List Loc} {Q : State → Prop}
variable {cc : ByteArray} {pc nL : Nat} {ls : Array Slot} {rest : List Value} {G : km_G} {μ : km_S}
end
theorem dX12_isOpen_0 : decode cX12_isOpen 0 = .ok (.aload_n 0, 1) := by decide +kernel
theorem dX12_isOpen_1 : decode cX12_isOpen 1 = .ok (.getfield 89, 3) := by decide +kernel
theorem dX12_isOpen_4 : decode cX12_isOpen 4 = .ok (.iload_n 1, 1) := by decide +kernel
theorem dX12_isOpen_5 : decode cX12_isOpen 5 = .ok (.iload_n 2, 1) := by decide +kernel
theorem dX12_isOpen_6 : decode cX12_isOpen 6 = .ok (.invokestatic 307, 3) := by decide +kernel
theorem dX12_isOpen_9 : decode cX12_isOpen 9 = .ok (.iaload, 1) := by decide +kernel
theorem dX12_isOpen_10 : decode cX12_isOpen 10 = .ok (.aload_n 0, 1) := by decide +kernel
theorem dX12_isOpen_11 : decode cX12_isOpen 11 = .ok (.getfield 40, 3) := by decide +kernel
theorem dX12_isOpen_14 : decode cX12_isOpen 14 = .ok (.iload_n 1, 1) := by decide +kernel
theorem dX12_isOpen_15 : decode cX12_isOpen 15 = .ok (.iaload, 1) := by decide +kernel
theorem dX12_isOpen_16 : decode cX12_isOpen 16 = .ok (.if_icmp .ge 20, 3) := by decide +kernel
theorem dX12_isOpen_19 : decode cX12_isOpen 19 = .ok (.aload_n 0, 1) := by decide +kernel
theorem dX12_isOpen_20 : decode cX12_isOpen 20 = .ok (.getfield 95, 3) := by decide +kernel
theorem dX12_isOpen_23 : decode cX12_isOpen 23 = .ok (.iload_n 1, 1) := by decide +kernel
theorem dX12_isOpen_24 : decode cX12_isOpen 24 = .ok (.iload_n 2, 1) := by decide +kernel
theorem dX12_isOpen_25 : decode cX12_isOpen 25 = .ok (.invokestatic 307, 3) := by decide +kernel
theorem dX12_isOpen_28 : decode cX12_isOpen 28 = .ok (.baload, 1) := by decide +kernel
theorem dX12_isOpen_29 : decode cX12_isOpen 29 = .ok (.ifCond .ne 7, 3) := by decide +kernel
theorem dX12_isOpen_32 : decode cX12_isOpen 32 = .ok (.iconst 1, 1) := by decide +kernel
theorem dX12_isOpen_33 : decode cX12_isOpen 33 = .ok (.goto 4, 3) := by decide +kernel
theorem dX12_isOpen_36 : decode cX12_isOpen 36 = .ok (.iconst 0, 1) := by decide +kernel
theorem dX12_isOpen_37 : decode cX12_isOpen 37 = .ok (.ireturn, 1) := by decide +kernel
def wX12_isOpen (l1 : Int32) (l2 : Int32) (μ : km_S) (Q : Int32 → km_S → Prop) : Prop := wX12_at0 l1 l2 μ fun r2 μ1 => vp_in r2 120 ∧ vp_in l1 10 ∧ (((km_a μ1 15 l1.toNatClampNeg) ≤ (km_a μ1 31 r2.toNatClampNeg) → Q 0 μ1) ∧
  (¬ ((km_a μ1 15 l1.toNatClampNeg) ≤ (km_a μ1 31 r2.toNatClampNeg)) → wX12_at0 l1 l2 μ1 fun r7 μ6 => vp_in r7 120 ∧ ((¬ (km_a μ6 33 r7.toNatClampNeg) = 0 → Q 0 μ6) ∧
    ((km_a μ6 33 r7.toNatClampNeg) = 0 → Q 1 μ6))))
set_option maxRecDepth 100000 in
set_option maxHeartbeats 4000000 in
theorem hc_X12_isOpen (l : Launch) (G : km_G) (l1 : Int32) (l2 : Int32) (μ : km_S) (Q : Int32 → km_S → Prop) (h : wX12_isOpen l1 l2 μ Q) : km_M l G yX12_isOpen cX12_isOpen 3 (some .boolean) (1) (21) [.ref (G.1 0), .int l1, .int l2] μ (km_Qi G Q) := by
  refine km_enter (by decide) rfl (Nat.le_of_ble_eq_true rfl) ?_
  intro p e s m below meth c ls F hr hlocks C hl
  have hl : lv_has ls 3 [(0, .ref (G.1 0)), (1, .int l1), (2, .int l2)] := hl
  obtain ⟨H, eH⟩ : ∃ z9, z9 = s.heap := ⟨_, rfl⟩
  obtain ⟨locs, eL⟩ : ∃ z9 : List Loc, z9 = [] := ⟨_, rfl⟩
  rw [← eH, ← eL] at C
  rw [← eH, ← eL]
  refine lv_aload_n F.1 F.2.1 dX12_isOpen_0 rfl (lv_at hl 0 rfl) ?_
  refine kg_holds F C dX12_isOpen_1 ?_
  refine lv_iload_n F.1 F.2.1 dX12_isOpen_4 rfl (lv_at hl 1 rfl) ?_
  refine lv_iload_n F.1 F.2.1 dX12_isOpen_5 rfl (lv_at hl 2 rfl) ?_
  refine kc_X12_at0 F C h (Nat.le_of_ble_eq_true rfl) (Nat.le_of_ble_eq_true rfl) hl.1 (by simp [Value.category]) dX12_isOpen_6 (fun r2 μ1 H locs h C => ?_)
  obtain ⟨hn3, h⟩ := h
  refine kl_holds F C hn3 dX12_isOpen_9 ?_
  refine lv_aload_n F.1 F.2.1 dX12_isOpen_10 rfl (lv_at hl 0 rfl) ?_
  refine kg_carry F C dX12_isOpen_11 ?_
  refine lv_iload_n F.1 F.2.1 dX12_isOpen_14 rfl (lv_at hl 1 rfl) ?_
  obtain ⟨hn4, h⟩ := h
  refine kl_carry F C hn4 dX12_isOpen_15 ?_
  refine lv_icmp_ge (tgt := 36) F.1 F.2.1 dX12_isOpen_16 (by decide) (fun c5 => ?_) (fun c5 => ?_)
  · have h := h.1 c5
    refine lv_iconst (v := 0) F.1 F.2.1 dX12_isOpen_36 (by decide) ?_
    exact km_zret F C hr hlocks rfl h dX12_isOpen_37
  · have h := h.2 c5
    refine lv_aload_n F.1 F.2.1 dX12_isOpen_19 rfl (lv_at hl 0 rfl) ?_
    refine kg_isJammed F C dX12_isOpen_20 ?_
    refine lv_iload_n F.1 F.2.1 dX12_isOpen_23 rfl (lv_at hl 1 rfl) ?_
    refine lv_iload_n F.1 F.2.1 dX12_isOpen_24 rfl (lv_at hl 2 rfl) ?_
    refine kc_X12_at0 F C h (Nat.le_of_ble_eq_true rfl) (Nat.le_of_ble_eq_true rfl) hl.1 (by simp [Value.category]) dX12_isOpen_25 (fun r7 μ6 H locs h C => ?_)
    obtain ⟨hn8, h⟩ := h
    refine kl_isJammed F C hn8 dX12_isOpen_28 ?_
    refine lv_if_ne (tgt := 36) F.1 F.2.1 dX12_isOpen_29 (by decide) (fun c9 => ?_) (fun c9 => ?_)
    · have h := h.1 c9
      refine lv_iconst (v := 0) F.1 F.2.1 dX12_isOpen_36 (by decide) ?_
      exact km_zret F C hr hlocks rfl h dX12_isOpen_37
    · have h := h.2 c9
      refine lv_iconst (v := 1) F.1 F.2.1 dX12_isOpen_32 (by decide) ?_
      refine lv_goto (tgt := 37) F.1 F.2.1 dX12_isOpen_33 (by decide) ?_
      exact km_zret F C hr hlocks rfl h dX12_isOpen_37
section
variable {p : Program} {l : Launch} {e : Env} {R : Room} {s : State} {m : MethodId} {args : Array Value} {below : List Frame} {meth : Method} {c : Code} {H : Heap} {locs : List Loc} {Q : State → Prop}
variable {cc : ByteArray} {pc nL : Nat} {ls : Array Slot} {rest : List Value} {G : km_G} {μ : km_S}
theorem kc_X12_isOpen (F : CallFix p m c cc nL s args kt_ RX12) (C : km_X G s H locs μ) {P : Int32 → km_S → Prop} {l1 : Int32} {l2 : Int32} (h : wX12_isOpen l1 l2 μ P) (h1 : (1) + 1 ≤ R.frames) (h2 : 8 + (3 + 11) + (21) ≤ R.locals) (hsz : ls.size = nL) (hW : (rest.map fun v => v.category).sum ≤ 8) (hdg : decode cc pc = .ok (.invokevirtual 322, 3)) (kk : ∀ (r : Int32) (μ' : km_S) (H1 : Heap) (locs1 : List Loc), P r μ' → km_X G s H1 locs1 μ' → W p l e R s m args below meth c H1 locs1 0 0 Q (F0 m (pc + 3) ls (.int r :: rest))) : W p l e R s m args below meth c H locs 0 0 Q (F0 m pc ls (.int l2 :: .int l1 :: .ref (G.1 0) :: rest)) :=
  km_cVi (n := 2) (As := [.int l1, .int l2]) F C (hc_X12_isOpen l G l1 l2 μ P h) (kt_V tw_190 tw_191 tw_192 tw_151 tw_193) (by decide +kernel) ⟨h1, h2⟩ rfl hsz hW hdg kk
end

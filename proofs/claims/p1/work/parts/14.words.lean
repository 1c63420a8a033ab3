def R_law : String := "LogRiverLaw"
def lw_P (b : Addr) (xs : List Int32) (args : Array Value) (s : State) : Prop := args = #[.ref b] ∧ s.IntsAt b xs ∧ xs.length ≤ 6 ∧ (Jvm.Cond.and given_1 narrow_1).before args s = true
def lw_Q (_ : Array Value) (s : State) (o : Outcome) (t : State) : Prop := o = .returned (some (.int 1)) ∧ Framed s o t [] 600002 7302232
def lw_Z (below : List Frame) (a : Array Value) (s : State) : State → Prop := fun t => ∃ o, t.status = .running ∧ Ended t below o ∧ lw_Q a s o t
/-- the law's own end, with 1 on the stack, nothing written that was there before, its room as the claim has it -/
theorem lw_ret {p : Program} {l : Launch} {e : Env} {s : State} {m : MethodId} {below : List Frame} {meth : Method} {c : Code} {b : Nat} (hx : p.tables.exec = Jvm.exec) (hb : c.code = code) (hr : meth.sig.returnType = ret) (hlocks : meth.locks = false) {pc : Nat} {H : Heap} {ls : Array Slot} (hdg : decode code pc = .ok (.ireturn, 1)) : W p l e room_1 s m #[Value.ref b] below meth c H [] 600002 7302232 (lw_Z below #[Value.ref b] s) (F0 m pc ls [.int 1]) := by
  intro T hT X
  obtain ⟨fs, hret, hrun, hended, hW, hframe⟩ := X.leave (v := some (.int 1)) (hlocks := hlocks) (fun h => by rw [hr] at h; cases h)
  have hmeth' : T.vm.method? m = some meth := X.method'
  refine ⟨T.setFrames fs, ?_, .returned (some (.int 1)), hrun, hended, rfl, ⟨_, rfl⟩, hW, hframe⟩
  jvm_step X.here [X.here.top, hx, hb, hdg, hmeth', hr, ret, narrow_b1]
  (try refine ⟨rfl, ?_⟩); (try refine ⟨rfl, ?_⟩)
  first | (intro acts; rw [hret _ acts rfl rfl rfl]) | rw [hret _ _ rfl rfl rfl]
  exact Steps.refl _
/-- what holds at the law's entry: the machine, the code, the tables' words (any of lw_tbl by 'hts w (by decide +kernel)'), the script of L ints xs at the cell b, what the Statement gives of the start (any of its parts by flat_of_before) -/
def lw_At (p : Program) (s : State) (m : MethodId) (meth : Method) (c : Code) (b L : Nat) (xs : Nat → Int32) : Prop :=
  p.tables.exec = Jvm.exec ∧ c.code = code ∧ meth.sig.returnType = ret ∧ c.maxLocals = 8 ∧ s.vm.findClass R_law = some m.cls ∧ (∀ w ∈ lw_tbl, w.before #[Value.ref b] s = true) ∧ va_X b L xs s s.heap ∧ b < s.heap.size ∧ meth.locks = false ∧ (Jvm.Cond.and given_1 narrow_1).before #[Value.ref b] s = true
set_option maxRecDepth 100000 in
theorem pw_wsL_law_0_r1 : ∀ w ∈ wsL_law_0_r1, w ∈ lw_tbl := by decide +kernel
set_option maxRecDepth 100000 in
theorem pw_wsL_law_0_r2 : ∀ w ∈ wsL_law_0_r2, w ∈ lw_tbl := by decide +kernel
set_option maxRecDepth 100000 in
theorem pw_wsL_law_0_r3 : ∀ w ∈ wsL_law_0_r3, w ∈ lw_tbl := by decide +kernel
set_option maxRecDepth 100000 in
theorem pw_wsL_law_0_r4 : ∀ w ∈ wsL_law_0_r4, w ∈ lw_tbl := by decide +kernel
set_option maxRecDepth 100000 in
theorem pw_wsL_law_0_r5 : ∀ w ∈ wsL_law_0_r5, w ∈ lw_tbl := by decide +kernel
set_option maxRecDepth 100000 in
theorem pw_wsL_law_0_r6 : ∀ w ∈ wsL_law_0_r6, w ∈ lw_tbl := by decide +kernel
set_option maxRecDepth 100000 in
theorem pw_wsL_law_0_r7 : ∀ w ∈ wsL_law_0_r7, w ∈ lw_tbl := by decide +kernel
set_option maxRecDepth 100000 in
theorem pw_wsL_law_0_r8 : ∀ w ∈ wsL_law_0_r8, w ∈ lw_tbl := by decide +kernel
set_option maxRecDepth 100000 in
theorem pw_wsL_law_0_r9 : ∀ w ∈ wsL_law_0_r9, w ∈ lw_tbl := by decide +kernel
set_option maxRecDepth 100000 in
theorem pw_wsL_law_0_r10 : ∀ w ∈ wsL_law_0_r10, w ∈ lw_tbl := by decide +kernel
set_option maxRecDepth 100000 in
theorem pw_wsL_law_0_r11 : ∀ w ∈ wsL_law_0_r11, w ∈ lw_tbl := by decide +kernel
set_option maxRecDepth 100000 in
theorem pw_wsL_law_0_r12 : ∀ w ∈ wsL_law_0_r12, w ∈ lw_tbl := by decide +kernel
set_option maxRecDepth 100000 in
theorem pw_wsL_law_0_r13 : ∀ w ∈ wsL_law_0_r13, w ∈ lw_tbl := by decide +kernel
set_option maxRecDepth 100000 in
theorem pw_wsL_law_0_r14 : ∀ w ∈ wsL_law_0_r14, w ∈ lw_tbl := by decide +kernel
set_option maxRecDepth 100000 in
theorem pw_wsL_law_0_r15 : ∀ w ∈ wsL_law_0_r15, w ∈ lw_tbl := by decide +kernel
set_option maxRecDepth 100000 in
theorem pw_wsL_law_0_r16 : ∀ w ∈ wsL_law_0_r16, w ∈ lw_tbl := by decide +kernel
set_option maxRecDepth 100000 in
theorem pw_wsL_law_0_r17 : ∀ w ∈ wsL_law_0_r17, w ∈ lw_tbl := by decide +kernel
set_option maxRecDepth 100000 in
theorem pw_wsL_law_0_r18 : ∀ w ∈ wsL_law_0_r18, w ∈ lw_tbl := by decide +kernel
set_option maxRecDepth 100000 in
theorem pw_wsL_law_0_r19 : ∀ w ∈ wsL_law_0_r19, w ∈ lw_tbl := by decide +kernel
set_option maxRecDepth 100000 in
theorem pw_wsL_law_0_r20 : ∀ w ∈ wsL_law_0_r20, w ∈ lw_tbl := by decide +kernel
set_option maxRecDepth 100000 in
theorem pw_wsL_law_0_r21 : ∀ w ∈ wsL_law_0_r21, w ∈ lw_tbl := by decide +kernel
set_option maxRecDepth 100000 in
theorem pw_wsL_law_0_r22 : ∀ w ∈ wsL_law_0_r22, w ∈ lw_tbl := by decide +kernel
set_option maxRecDepth 100000 in
theorem pw_wsL_law_0_r23 : ∀ w ∈ wsL_law_0_r23, w ∈ lw_tbl := by decide +kernel
set_option maxRecDepth 100000 in
theorem pw_wsL_law_0_r24 : ∀ w ∈ wsL_law_0_r24, w ∈ lw_tbl := by decide +kernel
set_option maxRecDepth 100000 in
theorem pw_wsL_law_0_r25 : ∀ w ∈ wsL_law_0_r25, w ∈ lw_tbl := by decide +kernel
set_option maxRecDepth 100000 in
theorem pw_wsL_law_0_r26 : ∀ w ∈ wsL_law_0_r26, w ∈ lw_tbl := by decide +kernel
set_option maxRecDepth 100000 in
theorem pw_wsL_law_0_r27 : ∀ w ∈ wsL_law_0_r27, w ∈ lw_tbl := by decide +kernel
set_option maxRecDepth 100000 in
theorem pw_wsL_law_0_r28 : ∀ w ∈ wsL_law_0_r28, w ∈ lw_tbl := by decide +kernel
set_option maxRecDepth 100000 in
theorem pw_wsL_law_0_r29 : ∀ w ∈ wsL_law_0_r29, w ∈ lw_tbl := by decide +kernel
set_option maxRecDepth 100000 in
theorem pw_wsL_law_0_r30 : ∀ w ∈ wsL_law_0_r30, w ∈ lw_tbl := by decide +kernel
set_option maxRecDepth 100000 in
theorem pw_wsL_law_0_r31 : ∀ w ∈ wsL_law_0_r31, w ∈ lw_tbl := by decide +kernel
set_option maxRecDepth 100000 in
theorem pw_wsL_law_0_r32 : ∀ w ∈ wsL_law_0_r32, w ∈ lw_tbl := by decide +kernel
set_option maxRecDepth 100000 in
theorem pw_wsL_law_0_r33 : ∀ w ∈ wsL_law_0_r33, w ∈ lw_tbl := by decide +kernel
set_option maxRecDepth 100000 in
theorem pw_wsL_law_0_r34 : ∀ w ∈ wsL_law_0_r34, w ∈ lw_tbl := by decide +kernel
set_option maxRecDepth 100000 in
theorem pw_wsL_law_0_r35 : ∀ w ∈ wsL_law_0_r35, w ∈ lw_tbl := by decide +kernel
set_option maxRecDepth 100000 in
theorem pw_wsL_law_0_r36 : ∀ w ∈ wsL_law_0_r36, w ∈ lw_tbl := by decide +kernel
set_option maxRecDepth 100000 in
theorem pw_wsL_law_0_r37 : ∀ w ∈ wsL_law_0_r37, w ∈ lw_tbl := by decide +kernel
set_option maxRecDepth 100000 in
theorem pw_wsL_law_0_r38 : ∀ w ∈ wsL_law_0_r38, w ∈ lw_tbl := by decide +kernel
set_option maxRecDepth 100000 in
theorem pw_wsL_law_0_r39 : ∀ w ∈ wsL_law_0_r39, w ∈ lw_tbl := by decide +kernel
set_option maxRecDepth 100000 in
theorem pw_wsL_law_0_r40 : ∀ w ∈ wsL_law_0_r40, w ∈ lw_tbl := by decide +kernel
set_option maxRecDepth 100000 in
theorem pw_wsL_law_0_r41 : ∀ w ∈ wsL_law_0_r41, w ∈ lw_tbl := by decide +kernel
set_option maxRecDepth 100000 in
theorem pw_wsL_law_0_r42 : ∀ w ∈ wsL_law_0_r42, w ∈ lw_tbl := by decide +kernel
set_option maxRecDepth 100000 in
theorem pw_wsL_law_0_r43 : ∀ w ∈ wsL_law_0_r43, w ∈ lw_tbl := by decide +kernel
set_option maxRecDepth 100000 in
theorem pw_wsL_law_0_r44 : ∀ w ∈ wsL_law_0_r44, w ∈ lw_tbl := by decide +kernel
set_option maxRecDepth 100000 in
theorem pw_wsL_law_0_r45 : ∀ w ∈ wsL_law_0_r45, w ∈ lw_tbl := by decide +kernel
set_option maxRecDepth 100000 in
theorem pw_wsL_law_0_r46 : ∀ w ∈ wsL_law_0_r46, w ∈ lw_tbl := by decide +kernel
set_option maxRecDepth 100000 in
theorem pw_wsL_law_0_r47 : ∀ w ∈ wsL_law_0_r47, w ∈ lw_tbl := by decide +kernel
set_option maxRecDepth 100000 in
theorem pw_wsX110 : ∀ w ∈ wsX110, w ∈ lw_tbl := by decide +kernel
set_option maxRecDepth 100000 in
theorem pw_wsX120 : ∀ w ∈ wsX120, w ∈ lw_tbl := by decide +kernel
set_option maxRecDepth 100000 in
theorem pw_wsJx4a65c0 : ∀ w ∈ wsJx4a65c0, w ∈ lw_tbl := by decide +kernel
set_option maxRecDepth 100000 in
theorem pw_wsX90 : ∀ w ∈ wsX90, w ∈ lw_tbl := by decide +kernel
set_option maxRecDepth 100000 in
theorem pw_wsX50 : ∀ w ∈ wsX50, w ∈ lw_tbl := by decide +kernel
set_option maxRecDepth 100000 in
theorem pw_wsX30 : ∀ w ∈ wsX30, w ∈ lw_tbl := by decide +kernel
set_option maxRecDepth 100000 in
theorem pw_wsX100 : ∀ w ∈ wsX100, w ∈ lw_tbl := by decide +kernel
set_option maxRecDepth 100000 in
theorem pw_wsX80 : ∀ w ∈ wsX80, w ∈ lw_tbl := by decide +kernel
set_option maxRecDepth 100000 in
theorem pw_wsX10 : ∀ w ∈ wsX10, w ∈ lw_tbl := by decide +kernel
set_option maxRecDepth 100000 in
theorem pw_wsX00 : ∀ w ∈ wsX00, w ∈ lw_tbl := by decide +kernel
set_option maxRecDepth 100000 in
theorem pw_wsX20 : ∀ w ∈ wsX20, w ∈ lw_tbl := by decide +kernel
set_option maxRecDepth 100000 in
theorem pw_wsX40 : ∀ w ∈ wsX40, w ∈ lw_tbl := by decide +kernel
set_option maxRecDepth 100000 in
theorem pw_wsX60 : ∀ w ∈ wsX60, w ∈ lw_tbl := by decide +kernel
set_option maxRecDepth 100000 in
theorem pw_wsX70 : ∀ w ∈ wsX70, w ∈ lw_tbl := by decide +kernel
set_option maxRecDepth 100000 in
theorem pw_N : ∀ w ∈ (pz_at RX11 354).filter goodWord, w ∈ lw_tbl := by decide +kernel
set_option maxRecDepth 100000 in
theorem pw_I : ∀ w ∈ (vx_atS RX11 155 "java/lang/IllegalArgumentException" ["java/lang/RuntimeException", "java/lang/Exception"]).filter goodWord, w ∈ lw_tbl := by decide +kernel
theorem wsL_law__in0 : ∀ w ∈ wsL_law_0, w ∈ lw_tbl := (List.forall_mem_append.mpr ⟨(List.forall_mem_append.mpr ⟨(List.forall_mem_append.mpr ⟨(List.forall_mem_append.mpr ⟨(List.forall_mem_append.mpr ⟨(List.forall_mem_append.mpr ⟨(List.forall_mem_append.mpr ⟨(List.forall_mem_append.mpr ⟨(List.forall_mem_append.mpr ⟨(List.forall_mem_append.mpr ⟨(List.forall_mem_append.mpr ⟨(List.forall_mem_append.mpr ⟨(List.forall_mem_append.mpr ⟨(List.forall_mem_append.mpr ⟨(List.forall_mem_append.mpr ⟨(List.forall_mem_append.mpr ⟨pw_wsL_law_0_r1, (List.forall_mem_append.mpr ⟨pw_wsL_law_0_r2, (List.forall_mem_append.mpr ⟨pw_wsL_law_0_r3, (List.forall_mem_append.mpr ⟨pw_wsL_law_0_r4, (List.forall_mem_append.mpr ⟨pw_wsL_law_0_r5, (List.forall_mem_append.mpr ⟨pw_wsL_law_0_r6, (List.forall_mem_append.mpr ⟨pw_wsL_law_0_r7, (List.forall_mem_append.mpr ⟨pw_wsL_law_0_r8, (List.forall_mem_append.mpr ⟨pw_wsL_law_0_r9, (List.forall_mem_append.mpr ⟨pw_wsL_law_0_r10, (List.forall_mem_append.mpr ⟨pw_wsL_law_0_r11, (List.forall_mem_append.mpr ⟨pw_wsL_law_0_r12, (List.forall_mem_append.mpr ⟨pw_wsL_law_0_r13, (List.forall_mem_append.mpr ⟨pw_wsL_law_0_r14, (List.forall_mem_append.mpr ⟨pw_wsL_law_0_r15, (List.forall_mem_append.mpr ⟨pw_wsL_law_0_r16, (List.forall_mem_append.mpr ⟨pw_wsL_law_0_r17, (List.forall_mem_append.mpr ⟨pw_wsL_law_0_r18, (List.forall_mem_append.mpr ⟨pw_wsL_law_0_r19, (List.forall_mem_append.mpr ⟨pw_wsL_law_0_r20, (List.forall_mem_append.mpr ⟨pw_wsL_law_0_r21, (List.forall_mem_append.mpr ⟨pw_wsL_law_0_r22, (List.forall_mem_append.mpr ⟨pw_wsL_law_0_r23, (List.forall_mem_append.mpr ⟨pw_wsL_law_0_r24, (List.forall_mem_append.mpr ⟨pw_wsL_law_0_r25, (List.forall_mem_append.mpr ⟨pw_wsL_law_0_r26, (List.forall_mem_append.mpr ⟨pw_wsL_law_0_r27, (List.forall_mem_append.mpr ⟨pw_wsL_law_0_r28, (List.forall_mem_append.mpr ⟨pw_wsL_law_0_r29, (List.forall_mem_append.mpr ⟨pw_wsL_law_0_r30, (List.forall_mem_append.mpr ⟨pw_wsL_law_0_r31, (List.forall_mem_append.mpr ⟨pw_wsL_law_0_r32, (List.forall_mem_append.mpr ⟨pw_wsL_law_0_r33, (List.forall_mem_append.mpr ⟨pw_wsL_law_0_r34, (List.forall_mem_append.mpr ⟨pw_wsL_law_0_r35, (List.forall_mem_append.mpr ⟨pw_wsL_law_0_r36, (List.forall_mem_append.mpr ⟨pw_wsL_law_0_r37, (List.forall_mem_append.mpr ⟨pw_wsL_law_0_r38, (List.forall_mem_append.mpr ⟨pw_wsL_law_0_r39, (List.forall_mem_append.mpr ⟨pw_wsL_law_0_r40, (List.forall_mem_append.mpr ⟨pw_wsL_law_0_r41, (List.forall_mem_append.mpr ⟨pw_wsL_law_0_r42, (List.forall_mem_append.mpr ⟨pw_wsL_law_0_r43, (List.forall_mem_append.mpr ⟨pw_wsL_law_0_r44, (List.forall_mem_append.mpr ⟨pw_wsL_law_0_r45, (List.forall_mem_append.mpr ⟨pw_wsL_law_0_r46, pw_wsL_law_0_r47⟩)⟩)⟩)⟩)⟩)⟩)⟩)⟩)⟩)⟩)⟩)⟩)⟩)⟩)⟩)⟩)⟩)⟩)⟩)⟩)⟩)⟩)⟩)⟩)⟩)⟩)⟩)⟩)⟩)⟩)⟩)⟩)⟩)⟩)⟩)⟩)⟩)⟩)⟩)⟩)⟩)⟩)⟩)⟩)⟩)⟩), pw_wsX110⟩), pw_wsX120⟩), pw_wsJx4a65c0⟩), pw_wsX90⟩), pw_wsX50⟩), pw_wsX30⟩), pw_wsX100⟩), pw_wsX80⟩), pw_wsX10⟩), pw_wsX00⟩), pw_wsX20⟩), pw_wsX40⟩), pw_wsX60⟩), pw_wsX70⟩), (fun _ h => absurd h List.not_mem_nil)⟩)
theorem wsL_law__in : ∀ w ∈ wsL_law_, w ∈ lw_tbl := (List.forall_mem_append.mpr ⟨(List.forall_mem_append.mpr ⟨wsL_law__in0, pw_N⟩), pw_I⟩)

/-! what every contract here takes of the tables and of the statics; calls and ends in short words -/
abbrev pz_I : String := "java/lang/IllegalArgumentException"
def pz_strs : List (String × Nat × String) := [(RX11, 397, "no such reach"), (RX11, 153, "the tape has not so many bytes, or there is no such day"), (RX11, 399, "no such log"), (RX11, 224, "no such number of hours"), (RX11, 352, "no such order"), (RX11, 385, "there are no such waters"), (RX11, 387, "no such board"), (RX11, 389, "no such mark"), (RX11, 395, "nothing of that kind is counted"), (RX12, 9, "mark"), (RX12, 11, "size"), (RX12, 13, "stump"), (RX12, 15, "hour"), (RX12, 17, "day"), (RX12, 19, "reach"), (RX12, 21, "age")]
abbrev pz_lsize : MethodName := ⟨"java/util/List", "size", "()I"⟩
abbrev pz_ladd : MethodName := ⟨"java/util/List", "add", "(Ljava/lang/Object;)Z"⟩
abbrev pz_ini (c : String) : MethodName := ⟨c, "<init>", "(Ljava/lang/String;)V"⟩
def pz_B (U : State) : Prop := (Cond.declares (pz_ini "java/lang/RuntimeException")).before #[] U = true ∧ (Cond.declares (pz_ini "java/lang/Exception")).before #[] U = true ∧ (Cond.declares (pz_ini "java/lang/Throwable")).before #[] U = true ∧ (Cond.castable pz_N pz_N).before #[] U = true ∧ (Cond.castable pz_I pz_I).before #[] U = true
/-- what the tables say of arrays of references, of class objects -/
def pz_w (U : State) : Prop := va_AO "java/lang/Object" U ∧ va_AO "java/lang/String" U ∧ va_Nw (.castable RX1 "java/lang/Object") U ∧ va_Nw (.castable RX4 "java/lang/Object") U ∧ va_Nw (.castable RX6 "java/lang/Object") U ∧ va_Nw (.castable RX8 "java/lang/Object") U ∧ va_Dc U ∧ ∃ mi : Nat, va_Mi "[Ljava/lang/Object;" mi U
theorem pz_w.warm {s U : State} (hW : s.WarmedH U.vm) (h : pz_w s) : pz_w U := by
  obtain ⟨h1, h2, h3, h4, h5, h6, h7, mi, h8⟩ := h
  exact ⟨h1.moved hW.alike, h2.moved hW.alike, h3.warmC hW, h4.warmC hW, h5.warmC hW, h6.warmC hW, h7.moved hW.alike, mi, h8.moved hW.alike⟩
theorem pz_w.same {u U : State} (hv : U.vm = u.vm) (h : pz_w u) : pz_w U := by
  obtain ⟨h1, h2, h3, h4, h5, h6, h7, mi, h8⟩ := h
  have al : u.vm.Alike U.vm := by rw [hv]; exact Vm.Alike.refl u.vm
  exact ⟨h1.moved al, h2.moved al, h3.same rfl hv.symm, h4.same rfl hv.symm, h5.same rfl hv.symm, h6.same rfl hv.symm, h7.moved al, mi, h8.moved al⟩
/-- the reference's seven Strings: they lie outside A -/
def pz_strM : List (String × Nat × String) := [(RX12, 9, "mark"), (RX12, 11, "size"), (RX12, 13, "stump"), (RX12, 15, "hour"), (RX12, 17, "day"), (RX12, 19, "reach"), (RX12, 21, "age")]
def pz_t (A : Nat → Prop) (U : State) (H : Heap) : Prop := ∀ q ∈ pz_strM, ∃ a : Nat, vk_R q.1 q.2.1 q.2.2 a U ∧ ¬ A a ∧ ∃ cell : Cell, H[a]? = some cell ∧ cell.vm.isStatics = false ∧ U.vm.findClass "java/lang/String" = some cell.cls
theorem pz_t.warm {A B : Nat → Prop} {s U : State} {H H1 : Heap} (hW : s.WarmedH U.vm) (hq : ∀ a : Nat, a < H.size → ¬ A a → H1[a]? = H[a]?) (hAB : ∀ q, B q → A q) (h : pz_t A s H) : pz_t B U H1 := by
  intro q hm
  obtain ⟨a, h1, h2, cell, h3, h4, h5⟩ := h q hm
  have hlt : a < H.size := (Array.getElem?_eq_some_iff.mp h3).1
  refine ⟨a, vk_R.warm hW h1, fun hb => h2 (hAB a hb), cell, by rw [hq a hlt h2]; exact h3, h4, ?_⟩
  rw [hW.alike.findClass]; exact h5
theorem pz_t.same {A : Nat → Prop} {u U : State} {H : Heap} (hv : U.vm = u.vm) (h : pz_t A u H) : pz_t A U H := by
  intro q hm
  obtain ⟨a, h1, h2, cell, h3, h4, h5⟩ := h q hm
  exact ⟨a, vk_R.same hv h1, h2, cell, h3, h4, by rw [hv]; exact h5⟩
def pz_v (U : State) : Prop := (∀ q ∈ pz_strs, ∃ a : Nat, vk_R q.1 q.2.1 q.2.2 a U) ∧ va_Fw RJx4a65c pz_lsize yJx4a65c_size_8abf5 U ∧ va_Fw RJx4a65c pz_ladd yJx4a65c_add_9ea2d U ∧ pz_B U ∧ pz_w U
theorem pz_tr {c : Cond} {u U : State} (hc : c.onTables = true) (h : c.before #[] (u.setVm U.vm) = true) : c.before #[] U = true := by
  have e := Cond.onTables_vm (A := #[]) (A' := #[]) (U := u) (U' := U) U.vm c hc
  have hU : U.setVm U.vm = U := rfl
  rw [hU] at e
  rw [← e]
  exact h
theorem pz_B.moved {u U : State} (hvm : u.vm.Alike U.vm) (h : pz_B u) : pz_B U := by
  obtain ⟨h1, h2, h3, h4, h5⟩ := h
  exact ⟨pz_tr rfl (by rw [Cond.declares_setVm hvm]; exact h1), pz_tr rfl (by rw [Cond.declares_setVm hvm]; exact h2), pz_tr rfl (by rw [Cond.declares_setVm hvm]; exact h3), pz_tr rfl (by rw [Cond.castable_setVm hvm]; exact h4), pz_tr rfl (by rw [Cond.castable_setVm hvm]; exact h5)⟩
theorem pz_v.warm {s U : State} (hW : s.WarmedH U.vm) (h : pz_v s) : pz_v U :=
  ⟨fun q hq => by obtain ⟨a, ha⟩ := h.1 q hq; exact ⟨a, vk_R.warm hW ha⟩, va_Fw.moved (by decide) hW.alike h.2.1, va_Fw.moved (by decide) hW.alike h.2.2.1, h.2.2.2.1.moved hW.alike, h.2.2.2.2.warm hW⟩
theorem pz_v.same {u U : State} (hv : U.vm = u.vm) (h : pz_v u) : pz_v U :=
  ⟨fun q hq => by obtain ⟨a, ha⟩ := h.1 q hq; exact ⟨a, vk_R.same hv ha⟩, va_Fw.moved (by decide) (by rw [hv]; exact Vm.Alike.refl u.vm) h.2.1, va_Fw.moved (by decide) (by rw [hv]; exact Vm.Alike.refl u.vm) h.2.2.1, h.2.2.2.1.moved (by rw [hv]; exact Vm.Alike.refl u.vm), h.2.2.2.2.same hv⟩
/-- the statics: ArrayList's empty array lies at e0; Throwable's two -/
def pz_s (e0 : Nat) (A : Nat → Prop) (U : State) (H : Heap) : Prop := va_Z "java/util/ArrayList" "DEFAULTCAPACITY_EMPTY_ELEMENTDATA" "[Ljava/lang/Object;" (.ref e0) A U H ∧ va_T (.object "java/lang/Object") e0 0 (fun _ => .null) A U H ∧ vx_Zq Bundle.tN "UNASSIGNED_STACK" Bundle.steD A U H ∧ vx_Zq Bundle.tN "SUPPRESSED_SENTINEL" Bundle.listD A U H
theorem pz_s.moved {e0 : Nat} {A : Nat → Prop} {u U : State} {H : Heap} (hvm : u.vm.Alike U.vm) (h : pz_s e0 A u H) : pz_s e0 A U H := ⟨h.1.moved hvm, h.2.1.moved hvm, h.2.2.1.moved hvm, h.2.2.2.moved hvm⟩
theorem pz_s.kept {e0 : Nat} {A : Nat → Prop} {U : State} {H H1 : Heap} (h : pz_s e0 A U H) (hq : ∀ a : Nat, a < H.size → ¬ A a → H1[a]? = H[a]?) : pz_s e0 A U H1 := ⟨h.1.kept hq, h.2.1.kept hq, h.2.2.1.kept hq, h.2.2.2.kept hq⟩
theorem pz_s.narrow {e0 : Nat} {A B : Nat → Prop} {U : State} {H : Heap} (h : pz_s e0 A U H) (hAB : ∀ q, B q → A q) : pz_s e0 B U H := ⟨h.1.narrow hAB, h.2.1.narrow hAB, h.2.2.1.narrow hAB, h.2.2.2.narrow hAB⟩
/-- a contract's start -/
def pz_P (e0 : Nat) (D : va_G) (tys : List (ClassId × FieldType)) (ws : va_W) (sz : Nat) (U : State) : Prop := U.heap.size = sz ∧ va_P D vwCl ws U.heap ∧ va_K D vwCl tys U ∧ va_D (fun _ => True) ws ∧ pz_s e0 (va_A ws sz) U U.heap ∧ pz_v U ∧ pz_t (va_A ws sz) U U.heap
theorem pz_blind {e0 : Nat} {D : va_G} {tys : List (ClassId × FieldType)} {ws : va_W} {sz : Nat} {av : List Value} : FrameBlind (va_Pc av (pz_P e0 D tys ws sz)) :=
  fun a U g mk q => by obtain ⟨q0, q1, qP, qK, qD, qZ, qV, qT⟩ := q; exact ⟨q0, q1, qP, va_K.moved (u := U) (U := U.calling g mk a) (Vm.Alike.refl U.vm) qK, qD, pz_s.moved (u := U) (U := U.calling g mk a) (Vm.Alike.refl U.vm) qZ, pz_v.same (u := U) (U := U.calling g mk a) rfl qV, pz_t.same (u := U) (U := U.calling g mk a) rfl qT⟩
/-- the caller's side: the callee's cells cut out -/
theorem pz_pre {e0 : Nat} {D : va_G} {tys : List (ClassId × FieldType)} {wc : va_W} {s : State} {H : Heap} {A : Nat → Prop} {locs : List Loc} (hPc : va_P D vwCl wc H) (hDc : va_D A wc) (hKc : va_K D vwCl tys s) (hZ : pz_s e0 A s s.heap) (hV : pz_v s) (hT : pz_t A s s.heap) (hS : va_S A s.heap H locs) (hF : ∀ q, va_A wc H.size q → A q) :
    ∀ U : State, U.heap = H → s.WarmedH U.vm → pz_P e0 D tys wc H.size U := fun U hU hW => ⟨by rw [hU], by rw [hU]; exact hPc, va_K.moved hW.alike hKc, hDc.weaken (fun _ _ _ _ => trivial), by rw [hU]; exact ((hZ.kept hS.2.1).moved hW.alike).narrow hF, hV.warm hW, by rw [hU]; exact hT.warm hW hS.2.1 hF⟩
theorem pz_preS {e0 : Nat} {D : va_G} {tys : List (ClassId × FieldType)} {wc : va_W} {s : State} {H : Heap} {A : Nat → Prop} {locs : List Loc} (av : List Value) (hPc : va_P D vwCl wc H) (hDc : va_D A wc) (hKc : va_K D vwCl tys s) (hZ : pz_s e0 A s s.heap) (hV : pz_v s) (hT : pz_t A s s.heap) (hS : va_S A s.heap H locs) (hF : ∀ q, va_A wc H.size q → A q) : PreS s H (va_Pc av (pz_P e0 D tys wc H.size)) av :=
  ⟨pz_blind, fun U hU hW => ⟨rfl, pz_pre hPc hDc hKc hZ hV hT hS hF U hU hW⟩⟩
theorem pz_preV {e0 : Nat} {D : va_G} {tys : List (ClassId × FieldType)} {wc : va_W} {s : State} {H : Heap} {A : Nat → Prop} {locs : List Loc} {C : String} {b : Nat} (av : List Value) (hPc : va_P D vwCl wc H) (hDc : va_D A wc) (hKc : va_K D vwCl tys s) (hZ : pz_s e0 A s s.heap) (hV : pz_v s) (hT : pz_t A s s.heap) (hS : va_S A s.heap H locs) (hF : ∀ q, va_A wc H.size q → A q) (hr : ∃ cell : Cell, H[b]? = some cell ∧ cell.vm.isStatics = false ∧ s.vm.findClass C = some cell.cls) : PreV s H C b (va_Pc (.ref b :: av) (pz_P e0 D tys wc H.size)) av :=
  ⟨pz_blind, hr, fun U hU hW => ⟨rfl, pz_pre hPc hDc hKc hZ hV hT hS hF U hU hW⟩⟩
/-- behind a call whose world nobody asks for: the caller's other cells -/
theorem pz_rest {A0 : Nat → Prop} {D : va_G} {ws wc wr : va_W} {H H1 : Heap} (hP : va_P D vwCl ws H) (hD : va_D A0 ws) (isC isR : List Nat) (hC : isC.map (fun i => ws[i]?) = wc.map some) (hR : isR.map (fun i => ws[i]?) = wr.map some) (hn : va_nd isR = true) (hdis : ∀ i ∈ isR, i ∉ isC)
    (hk : ∀ q : Nat, q < H.size → ¬ va_A wc H.size q → H1[q]? = H[q]?) (hF : ∀ q, va_A wc H.size q → A0 q) : va_P D vwCl wr H1 ∧ va_D A0 wr := by
  have h := va_join (wr := wr) (w1 := []) hP hD isC isR hC hR hn hdis hk hF (fun k q h => by simp at h) ⟨fun i j p q h => by simp at h, fun k q h => by simp at h⟩
  rw [List.append_nil] at h
  exact h
/-- the frame, with a new cell behind it -/
theorem pz_F {A : Nat → Prop} {s t : State} {H : Heap} {locs : List Loc} (hS : va_S A s.heap H locs) (h1 : H.size ≤ t.heap.size) (h2 : ∀ q : Nat, q < H.size → t.heap[q]? = H[q]?) : va_F A s t :=
  ⟨Nat.le_trans hS.1 h1, fun q hq hA => (h2 q (Nat.lt_of_lt_of_le hq hS.1)).trans (hS.2.1 q hq hA)⟩
/-- what a throwing contract says of its throw: the class's name -/
abbrev pz_X (E0 : String) (c : Prop) (A : Nat → Prop) : String → State → State → Prop := vx_X (fun _ : Unit => c) (fun E _ _ => E = E0) A
theorem pz_atN : ∀ w ∈ (pz_at RX11 354).filter (fun w => !goodWord w), w ∈ [Cond.declares (pz_ini "java/lang/RuntimeException"), Cond.declares (pz_ini "java/lang/Exception"), Cond.declares (pz_ini "java/lang/Throwable"), Cond.castable pz_N pz_N] := by decide +kernel
theorem pz_otN : ∀ w ∈ Cond.classLink RX11 350 pz_N :: Cond.initialized pz_N :: pz_at RX11 354, vx_ot w = true := by decide +kernel
theorem pz_atI : ∀ w ∈ (vx_atS RX11 155 pz_I ["java/lang/RuntimeException", "java/lang/Exception"]).filter (fun w => !goodWord w), w ∈ [Cond.declares (pz_ini "java/lang/RuntimeException"), Cond.declares (pz_ini "java/lang/Exception"), Cond.declares (pz_ini "java/lang/Throwable"), Cond.castable pz_I pz_I] := by decide +kernel
theorem pz_otI : ∀ w ∈ Cond.classLink RX11 151 pz_I :: Cond.initialized pz_I :: vx_atS RX11 155 pz_I ["java/lang/RuntimeException", "java/lang/Exception"], vx_ot w = true := by decide +kernel
section
variable {p : Program} {l : Launch} {e : Env} {R : Room} {s : State} {m : MethodId} {args : Array Value} {below : List Frame} {meth : Method} {c : Code} {H : Heap} {locs : List Loc} {cells slots : Nat} {cc : ByteArray} {pc is mc ms : Nat} {A : Nat → Prop} {Qc : Array Value → State → Outcome → State → Prop} {ls : Array Slot} {rest : List Value} {Ts : List Cond} {e0 : Nat}
/-- 'throw new NoSuchElementException("text")' in LogRiver -/
theorem pz_throwN {text : String} {cnd : Prop} (hcnd : cnd) (hq : (RX11, is, text) ∈ pz_strs) (hx : p.tables.exec = Jvm.exec) (hb : c.code = cc) (hl : l.stackTraces = false) (hown : s.vm.findClass RX11 = some m.cls) (hts : ∀ w ∈ Ts, w.before args s = true) (hk : Cond.classLink RX11 350 pz_N ∈ Ts) (hi : Cond.initialized pz_N ∈ Ts) (hg : ∀ w ∈ (pz_at RX11 354).filter goodWord, w ∈ Ts) (hV : pz_v s) (hZ : pz_s e0 A s s.heap) (hS : va_S A s.heap H locs) (hsize : ls.size = c.maxLocals)
    (d0 : decode cc pc = .ok (.new 350, 3)) (d3 : decode cc (pc + 3) = .ok (.dup, 1)) (d4 : decode cc (pc + 4) = .ok (.ldc_w is, 3)) (d7 : decode cc (pc + 7) = .ok (.invokespecial 354, 3)) (d10 : decode cc (pc + 10) = .ok (.athrow, 1)) (hout : ∀ x ∈ c.exceptionTable.toList, False)
    (hf : 5 < R.frames) (hlo : (rest.map fun v => v.category).sum + 82 ≤ R.locals) (hc : cells + 1 ≤ R.cells) (hs : slots + 6 ≤ R.slots) (hlocks : meth.locks = false) (hmc : cells + 1 ≤ mc) (hms : slots + 6 ≤ ms) :
    W p l e R s m args below meth c H locs cells slots (vx_MQ below Qc (pz_X pz_N cnd A) args s mc ms A) (F0 m pc ls rest) := by
  obtain ⟨sa, hsa⟩ := hV.1 _ hq
  obtain ⟨b1, b2, b3, b4, -⟩ := hV.2.2.2.1
  have hat : ∀ w ∈ pz_at RX11 354, w.before args s = true := vx_hat (fun w hw => hts w (hg w hw)) pz_atN (vx_c (va_any rfl b1) (vx_c (va_any rfl b2) (vx_c (va_any rfl b3) (vx_c (va_any rfl b4) vx_n))))
  have hgood := pz_otN
  intro T hT X
  have htr : e.platform.stackTraces = false := (show e.platform.stackTraces = l.stackTraces by rw [X.admits.platform]).trans hl
  have Y := vx_rebase X (R' := { frames := R.frames, locals := R.locals, cells := 1, slots := 6 }) (Nat.le_refl _) (Nat.le_refl _) hc hs
  obtain ⟨s', hA⟩ : ∃ z, z = (T.setVm s.vm).setFrames (.invoking m args :: below) := ⟨_, rfl⟩
  rw [← hA] at Y
  have hvm : s'.vm = s.vm := by rw [hA]; rfl
  have hhp : s'.heap = H := by rw [hA]; exact hT
  have hW0 : s.WarmedH s'.vm := by rw [hvm]; exact State.WarmedH.refl s
  have hat' : ∀ w ∈ pz_at RX11 354, w.before args s' = true := fun w hw => vx_ot_at hW0 hvm.symm (hgood w (List.mem_cons_of_mem _ (List.mem_cons_of_mem _ hw))) (hat w hw)
  have hk' : (Cond.classLink RX11 350 pz_N).before args s' = true := vx_ot_at hW0 hvm.symm (hgood _ List.mem_cons_self) (hts _ hk)
  have hini' : (Cond.initialized pz_N).before args s' = true := vx_ot_at hW0 hvm.symm (hgood _ (List.mem_cons_of_mem _ List.mem_cons_self)) (hts _ hi)
  have hU' : vx_Zq Bundle.tN "UNASSIGNED_STACK" Bundle.steD A s' s'.heap := by rw [hhp]; exact vx_Zq.moved hW0.alike (hZ.2.2.1.kept hS.2.1)
  have hN' : vx_Zq Bundle.tN "SUPPRESSED_SENTINEL" Bundle.listD A s' s'.heap := by rw [hhp]; exact vx_Zq.moved hW0.alike (hZ.2.2.2.kept hS.2.1)
  have h : ∀ w ∈ pz_oa RX11 354, w.before args s' = true := vx_own hat' (vx_isRefq hU'.1) (vx_isRefq hN'.1) hU'.2.word hN'.2.word
  have hown' : s'.vm.findClass RX11 = some m.cls := by rw [hvm]; exact hown
  have hins : (Cond.instantiable pz_N 6).before args s' = true := h _ (by decide +kernel)
  obtain ⟨vm₁, cX, kX, hfX, hkX, -, -, X₁, st1⟩ := Y.newCold hx (own := RX11) (C := pz_N) (index := 350) (n := 6) hown' hk' hins hini'
    (g := F0 m pc ls rest) rfl (by rw [hb]; exact d0) (Nat.le_refl _) (Nat.le_refl _)
  generalize hT1 : (T.setVm vm₁).pushCell { cls := cX, slots := kX.instanceTypes.map defaultValue, vm := .none } = T1 at X₁ st1
  have hcat : (Value.ref T.heap.size).category = 1 := rfl
  have hcellA : T1.heap[T.heap.size]? = some (freshCell cX kX) := by rw [← hT1]; exact State.heap_pushCell_size _ _
  have d3' : decode c.code (pc + 3) = .ok (.dup, 1) := by rw [hb]; exact d3
  have d4' : decode c.code (pc + 4) = .ok (.ldc_w is, 3) := by rw [hb]; exact d4
  have hstr' : vk_R RX11 is text sa s' := vk_R.warm hW0 hsa
  obtain ⟨U, hsteps, hrun, hend, hW, hsame, ce, hce, hvn, hcn⟩ := pz_ctorN X₁ hx htr (own := RX11) (ic := 354) hown' h (fun x hx => nomatch hx) hfX hkX hcellA (by rw [hhp, hT]; exact Nat.le_refl _) (msg := .ref sa) rfl
    (g := { method := m, pc := pc + 7, locals := ls, stack := .ref sa :: .ref T.heap.size :: .ref T.heap.size :: rest, locked := none }) rfl hsize rfl rfl (rest := rest) rfl
    (by rw [hb]; exact d7) (by rw [hb]; exact d10) (fun x hx => (hout x hx).elim) hf (by simp only [List.map_cons, List.sum_cons, hcat]; omega) hlocks
  obtain ⟨f1, f2⟩ := vx_frame hsame
  rw [hhp] at f1 f2
  have hWs : s.WarmedH U.vm := State.WarmedH.trans hW0 hW
  have hcl : s.vm.findClass pz_N = some ce.cls := by
    have h9 := hcn
    rw [hvm] at h9
    exact h9
  have hall : s.sameButNew ({ U with vm := s.vm } : State) locs mc ms := by
    subst hA
    obtain ⟨e1, e2⟩ := hsame
    rw [State.setFrames_setFrames] at e1
    have h2 : (T.setVm s.vm).sameButNew ({ U with vm := s.vm } : State) [] (0 + 1) (0 + 6) := ⟨e1, e2⟩
    have h3 := X.same.trans h2
    rw [List.append_nil] at h3
    exact h3.mono hmc hms
  refine ⟨U, ?_, .threw T.heap.size, hrun, hend, Or.inr ⟨T.heap.size, rfl, pz_N, ce, locs, ⟨(), hcnd, rfl, pz_F hS f1 (fun q hq => f2 q hq (fun z hz => nomatch hz))⟩, hce, hvn, hcl, hWs, hall, hS.2.2⟩⟩
  refine st1 _ ?_
  show Steps p.tables e below (T1.setTop { method := m, pc := pc + 3, locals := ls, stack := .ref T.heap.size :: rest, locked := none }) _
  jvm_step X₁.here [X₁.here.top, hx, d3', Value.category]
  exact X₁.ldcStringW hx (own := RX11) (text := text) (index := is) (a := sa) hown' hstr'.1 hstr'.2
    (g := { method := m, pc := pc + 4, locals := ls, stack := .ref T.heap.size :: .ref T.heap.size :: rest, locked := none }) rfl d4' _ hsteps
/-- 'throw new IllegalArgumentException("text")' in LogRiver -/
theorem pz_throwI {text : String} {cnd : Prop} (hcnd : cnd) (hq : (RX11, is, text) ∈ pz_strs) (hx : p.tables.exec = Jvm.exec) (hb : c.code = cc) (hl : l.stackTraces = false) (hown : s.vm.findClass RX11 = some m.cls) (hts : ∀ w ∈ Ts, w.before args s = true) (hk : Cond.classLink RX11 151 pz_I ∈ Ts) (hi : Cond.initialized pz_I ∈ Ts) (hg : ∀ w ∈ (vx_atS RX11 155 pz_I ["java/lang/RuntimeException", "java/lang/Exception"]).filter goodWord, w ∈ Ts) (hV : pz_v s) (hZ : pz_s e0 A s s.heap) (hS : va_S A s.heap H locs) (hsize : ls.size = c.maxLocals)
    (d0 : decode cc pc = .ok (.new 151, 3)) (d3 : decode cc (pc + 3) = .ok (.dup, 1)) (d4 : decode cc (pc + 4) = .ok (.ldc is, 2)) (d7 : decode cc (pc + 6) = .ok (.invokespecial 155, 3)) (d10 : decode cc (pc + 9) = .ok (.athrow, 1)) (hout : ∀ x ∈ c.exceptionTable.toList, False)
    (hf : 5 < R.frames) (hlo : (rest.map fun v => v.category).sum + 82 ≤ R.locals) (hc : cells + 1 ≤ R.cells) (hs : slots + 6 ≤ R.slots) (hlocks : meth.locks = false) (hmc : cells + 1 ≤ mc) (hms : slots + 6 ≤ ms) :
    W p l e R s m args below meth c H locs cells slots (vx_MQ below Qc (pz_X pz_I cnd A) args s mc ms A) (F0 m pc ls rest) := by
  obtain ⟨sa, hsa⟩ := hV.1 _ hq
  obtain ⟨b1, b2, b3, -, b4⟩ := hV.2.2.2.1
  refine vx_throwS (own := RX11) (cls := pz_I) (text := text) (names := ["java/lang/RuntimeException", "java/lang/Exception"]) (sa := sa) (A := A) hx hb hl hown (by decide +kernel) (by decide +kernel) (hts _ hk) (hts _ hi) hsa (vx_hat (fun w hw => hts w (hg w hw)) pz_atI (vx_c (va_any rfl b1) (vx_c (va_any rfl b2) (vx_c (va_any rfl b3) (vx_c (va_any rfl b4) vx_n))))) pz_otI hZ.2.2.1 hZ.2.2.2 hS hsize d0 d3 d4 d7 d10 (fun x hx => (hout x hx).elim) hf hlo hc hs hlocks (fun t hv h1 h2 => ⟨(), hcnd, rfl, pz_F hS h1 h2⟩) hS.2.2 hmc hms
end

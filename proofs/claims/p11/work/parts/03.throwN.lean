/-! 'throw new NoSuchElementException("text")': its constructor passes the text on by the pool's entry 13, not 7: the library's law (BundleOwnThrow) with that one link changed, and less said of the cell -/
abbrev pz_N : String := "java/util/NoSuchElementException"
abbrev pz_RT : String := "java/lang/RuntimeException"
def pz_c13 : ByteArray := ⟨#[0x2a, 0x2b, 0xb7, 0x00, 0x0d, 0xb1]⟩
theorem pz_c13_0 : decode pz_c13 0 = .ok (.aload_n 0, 1) := by decide +kernel
theorem pz_c13_1 : decode pz_c13 1 = .ok (.aload_n 1, 1) := by decide +kernel
theorem pz_c13_2 : decode pz_c13 2 = .ok (.invokespecial 13, 3) := by decide +kernel
theorem pz_c13_5 : decode pz_c13 5 = .ok (.return_, 1) := by decide +kernel
def pz_not7 (w : Cond) : Bool := decide (w ≠ .code (Bundle.initS pz_N) Bundle.six 2 none) && decide (w ≠ .methodLink pz_N 7 (Bundle.initS pz_RT))
theorem pz_not7_ml (own : String) (ic : Nat) : pz_not7 (.methodLink own ic (Bundle.initS pz_N)) = true := by
  have h9 : Bundle.initS pz_N ≠ Bundle.initS pz_RT := by decide +kernel
  simp [pz_not7, h9]
/-- the words of that throw -/
def pz_oa (own : String) (ic : Nat) : List Cond := (Bundle.ownAtoms own ic pz_N [pz_RT, "java/lang/Exception"]).filter pz_not7 ++ Bundle.passSAtoms pz_N pz_RT 13 pz_c13
/-- .. but the four that speak of the heap -/
def pz_at (own : String) (ic : Nat) : List Cond := (pz_oa own ic).filter vx_no
section
variable {p : Program} {l : Launch} {e : Env} {R : Room} {s : State} {m₀ : MethodId} {args : Array Value} {below : List Frame} {meth : Method} {c : Code} {W : State} {locs : List Loc} {cells slots : Nat}
set_option maxHeartbeats 2000000 in
theorem pz_ctorN (X : Stand p l e R s m₀ args below meth c W locs cells slots) (hexec : p.tables.exec = Jvm.exec) (htr : e.platform.stackTraces = false) {own : String} {ic : Nat}
    (hown : s.vm.findClass own = some m₀.cls)
    (h : ∀ a ∈ pz_oa own ic, a.before args s = true)
    (hlocs : ∀ x ∈ locs, ∀ cell, s.heap[x.base]? = some cell → cell.vm.isStatics = false)
    {a : Addr} {cX : ClassId} {kX : Class} (hfoundX : s.vm.findClass pz_N = some cX) (hkX : s.vm.classes[cX]? = some kX) (hcell : W.heap[a]? = some (freshCell cX kX)) (hnew : s.heap.size ≤ a)
    {msg : Value} (hmsg : msg.isRef = true)
    {g : JFrame} (hg : g.method = m₀) (hsize : g.locals.size = c.maxLocals) (hlocked : g.locked = none) (hentered : g.entered = []) {rest : List Value} (hstack : g.stack = msg :: .ref a :: .ref a :: rest)
    (hd6 : decode c.code g.pc = .ok (.invokespecial ic, 3)) (hd9 : decode c.code (g.pc + 3) = .ok (.athrow, 1)) (hout : ∀ x ∈ c.exceptionTable.toList, covers x (g.pc + 3) = false)
    (hRframes : 5 < R.frames) (hRlocals : 2 * g.monitorRoom + ((Value.ref a :: rest).map fun v => v.category).sum + 81 ≤ R.locals) (hlocks : meth.locks = false) :
    ∃ U : State, Steps p.tables e below (W.setTop g) U ∧ U.status = .running ∧ Ended U below (.threw a) ∧ s.WarmedH U.vm ∧ s.sameButNew ({ U with vm := s.vm } : State) locs cells slots ∧
      ∃ ce, U.heap[a]? = some ce ∧ ce.vm = .none ∧ s.vm.findClass pz_N = some ce.cls := by
  have howns : e.platform.frameOwnsMonitors = true := by rw [X.admits.platform]
  have hfin : e.platform.finalization = false := by rw [X.admits.platform]
  have hpl : e.platform.magicAccessors = ({} : Platform).magicAccessors := by rw [X.admits.platform]
  have hoa : ∀ x, x ∈ Bundle.ownAtoms own ic pz_N [pz_RT, "java/lang/Exception"] → pz_not7 x = true → x.before args s = true := fun x hx hn => h x (List.mem_append_left _ (List.mem_filter.mpr ⟨hx, hn⟩))
  have a' : ∀ x, x ∈ Bundle.ownAtoms own ic pz_N [pz_RT, "java/lang/Exception"] → pz_not7 x = true → x.holds args s none s [] = true := fun x hx hn => hoa x hx hn
  have t1 : ∀ x ∈ Bundle.throwableAtoms, pz_not7 x = true := by decide +kernel
  have t2 : ∀ x ∈ Bundle.throwableSAtoms, pz_not7 x = true := by decide +kernel
  have t3 : ∀ x ∈ Bundle.chainSAtoms pz_RT ["java/lang/Exception"], pz_not7 x = true := by decide +kernel
  obtain ⟨T, Z0, L, -, Y⟩ := ThrowableC.of_atoms (args := args) howns hfin hpl (fun x hx => hoa x (by simp [Bundle.ownAtoms, hx]) (t1 x hx))
  obtain ⟨Z, M, LZ, LM, hnZ⟩ := Init0T.ofS_atoms (args := args) hpl L Y (fun x hx => hoa x (by simp [Bundle.ownAtoms, hx]) (t2 x hx))
  obtain ⟨P1, L1, hP1m, hs1⟩ := PassC.ofS_atoms (args := args) (s := s) hpl (X := pz_N) (Y := pz_RT) (index := 13) (bytes := pz_c13) (by decide +kernel) (by decide +kernel) pz_c13_0 pz_c13_1 pz_c13_2 pz_c13_5 (fun x hx => h x (List.mem_append_right _ hx))
  obtain ⟨P2, Ps, hlen, L2, hL, hm2, hsup, hpass⟩ := Bundle.chainS (args := args) hpl hnZ ["java/lang/Exception"] pz_RT (by decide +kernel) (by decide +kernel) (fun x hx => hoa x (by simp only [Bundle.ownAtoms, Bundle.chainSAtoms, List.mem_append] at hx ⊢; exact Or.inl (Or.inr (Or.inr hx))) (t3 x hx))
  have hlink1 : P1.sup = P2.m := Option.some.inj (hs1.symm.trans hm2)
  have hfound : s.vm.findClass pz_N = some P1.m.cls := findClass_of_methodNamed hP1m
  cases Option.some.inj (hfoundX.symm.trans hfound)
  obtain ⟨c1, kX', hc1, hk, hord, -, -, hn6⟩ := Cond.instantiable_spec (a' (.instantiable pz_N 6) (by simp [Bundle.ownAtoms]) (by decide +kernel))
  cases Option.some.inj (hc1.symm.trans hfound)
  cases Option.some.inj (hkX.symm.trans hk)
  have hsel0 : selectMethod e.platform s.vm P1.m.cls T.fill0 = .method T.fill0 := by
    obtain ⟨c2, r2, m2, q1, q2, q3, q4, -⟩ := Cond.selects_spec (a' (.selects pz_N Bundle.tFill0 Bundle.tFill0) (by simp [Bundle.ownAtoms]) (by decide +kernel))
    cases Option.some.inj (q1.symm.trans hfound)
    cases Option.some.inj (q2.symm.trans (State.methodFound?_of_named Y.fill0 (by decide)))
    cases Option.some.inj (q3.symm.trans Y.fill0)
    rw [Launch.admits_selectMethod X.admits]; exact q4
  have hselF : selectMethod e.platform s.vm P1.m.cls T.fill = .method T.fill := by
    obtain ⟨c2, r2, m2, q1, q2, q3, q4, -⟩ := Cond.selects_spec (a' (.selects pz_N Bundle.tFill Bundle.tFill) (by simp [Bundle.ownAtoms]) (by decide +kernel))
    cases Option.some.inj (q1.symm.trans hfound)
    cases Option.some.inj (q2.symm.trans (State.methodFound?_of_named Y.fill (by decide)))
    cases Option.some.inj (q3.symm.trans Y.fill)
    rw [Launch.admits_selectMethod X.admits]; exact q4
  obtain ⟨cellS0, hcS0, hiss⟩ := Y.statics
  obtain ⟨u0, hu0⟩ := Cond.staticRefV Y.unassigned L.unassignedStatic L.statics hcS0 hiss (a' (.isRef (.static Bundle.tN "UNASSIGNED_STACK" Bundle.steD)) (by simp [Bundle.ownAtoms]) (by decide +kernel))
  obtain ⟨sen, hsen⟩ := Cond.staticRefV Y.sentinel L.sentinelStatic L.statics hcS0 hiss (a' (.isRef (.static Bundle.tN "SUPPRESSED_SENTINEL" Bundle.listD)) (by simp [Bundle.ownAtoms]) (by decide +kernel))
  obtain ⟨ci198, i198, fB, hk198, hg198, ha198, hsB, -, hnB, htB, hffB⟩ := Cond.ownField (t := .object "java/lang/Object") Y.found L.cls (by decide +kernel) (a' (.fieldLink Bundle.tN 198 Bundle.tN "backtrace" "Ljava/lang/Object;") (by simp [Bundle.ownAtoms]) (by decide +kernel)) (a' (.lays Bundle.tN Bundle.tN "backtrace" "Ljava/lang/Object;") (by simp [Bundle.ownAtoms]) (by decide +kernel)) e.platform hpl
  obtain ⟨cellS, hcS', heS, -, hkeep⟩ := X.same.2.2.2.2.2 T.aS cellS0 hcS0
  have hcellS : W.heap[T.aS]? = some cellS := hcS'
  have hout' : ∀ i, (⟨T.aS, i⟩ : Loc) ∉ locs := fun i hmem => by
    have := hlocs _ hmem cellS0 hcS0
    rw [hiss] at this; cases this
  have hknownS : cellS.vm ≠ .unknown := by
    rw [heS]; intro hu
    rw [show cellS0.vm = .unknown from hu] at hiss
    cases hiss
  have hneS : T.aS ≠ a := Nat.ne_of_lt (Nat.lt_of_lt_of_le (Array.getElem?_eq_some_iff.mp hcS0).1 hnew)
  obtain ⟨iM, hffM⟩ := Y.msg
  obtain ⟨tyC, dC, hdC, hdnC⟩ := Cond.laysAt hfound hk Y.cause (a' (.lays pz_N Bundle.tN "cause" "Ljava/lang/Throwable;") (by simp [Bundle.ownAtoms]) (by decide +kernel))
  obtain ⟨tyS, dS, hdS, hdnS⟩ := Cond.laysAt hfound hk Y.stack (a' (.lays pz_N Bundle.tN "stackTrace" Bundle.steD) (by simp [Bundle.ownAtoms]) (by decide +kernel))
  obtain ⟨tyP, dP, hdP, hdnP⟩ := Cond.laysAt hfound hk Y.supp (a' (.lays pz_N Bundle.tN "suppressedExceptions" Bundle.listD) (by simp [Bundle.ownAtoms]) (by decide +kernel))
  obtain ⟨tyM, dM, hdM, hdnM⟩ := Cond.laysAt hfound hk hffM (a' (.lays pz_N Bundle.tN "detailMessage" "Ljava/lang/String;") (by simp [Bundle.ownAtoms]) (by decide +kernel))
  obtain ⟨tyB, dB, hdB, hdnB⟩ := Cond.laysAt hfound hk hffB (a' (.lays pz_N Bundle.tN "backtrace" "Ljava/lang/Object;") (by simp [Bundle.ownAtoms]) (by decide +kernel))
  have bC := Cond.laysApart hdB hdC hdnB hdnC (by rw [hnB, Y.causeName]; decide)
  have bS := Cond.laysApart hdB hdS hdnB hdnS (by rw [hnB, Y.stackName]; decide)
  have bP := Cond.laysApart hdB hdP hdnB hdnP (by rw [hnB, Y.suppName]; decide)
  have hskip : SkipFacts T e.platform s (fun u => u) u0 ((preparedCellV T.toThrowableT (freshCell P1.m.cls kX) a u0 sen).withEntry W.cur) :=
    ⟨{ ci198 := ci198, i198 := i198, fBack := fB }, ⟨hk198, hg198, ha198, hsB⟩, by
      have := fresh_default (c := P1.m.cls) tyB
      rw [htB] at this
      simpa [preparedCellV, Cell.setSlot, Cell.withEntry, Array.getElem?_setIfInBounds, bC, bS, bP, bC.symm, bS.symm, bP.symm, defaultValue] using this, fun _ _ => rfl⟩
  obtain ⟨tm, methC, cdC, kC, vm₁, hnC, -, -, -, -, -, -, -, hW₁, st1⟩ := Steps.initColdS (tb := p.tables) (e := e) (below := below) (s := s) (U := W) X.here hexec X.warmed hpl hown (t := Bundle.initS pz_N) rfl rfl (by decide +kernel)
    (a' (.methodLink own ic (Bundle.initS pz_N)) (by simp [Bundle.ownAtoms]) (pz_not7_ml own ic)) (h (.instanceMethod (Bundle.initS pz_N)) (List.mem_append_right _ (by simp [Bundle.passSAtoms]))) (bytes := pz_c13) (maxL := 2) (h (.code (Bundle.initS pz_N) pz_c13 2 none) (List.mem_append_right _ (by simp [Bundle.passSAtoms])))
    (f := g) hg (a := a) (msg := msg) (rest := .ref a :: rest) hstack hd6
  cases Option.some.inj (hnC.symm.trans hP1m)
  have X₁ := X.noted hW₁
  obtain ⟨vm₂, X₂, st2⟩ := X₁.ctorMessageOffV hexec (g := { g with stack := .ref a :: rest }) hg hsize T L Z LZ M LM (P1 :: P2 :: Ps)
    (fun P hP => by rcases List.mem_cons.mp hP with rfl | hP; exact L1; rcases List.mem_cons.mp hP with rfl | hP; exact L2; exact hL P hP) ⟨hlink1, hsup, hpass⟩ (u0 := u0) (sen := sen) (self := a) hmsg (cell := freshCell P1.m.cls kX) (cellS := cellS)
    hcell (fun _ => by simp) (by simp) rfl rfl hsel0 hselF hcellS hneS hknownS (by rw [hkeep _ (hout' _)]; exact hu0) (by rw [hkeep _ (hout' _)]; exact hsen)
    (Takes.of_laid hk hord tyC (by rw [Y.causeType]; rfl)) (Takes.of_laid hk hord tyS (by rw [Y.stackType]; exact fits_refV_array _ u0)) (Takes.of_laid hk hord tyP (by rw [Y.suppType]; exact fits_refV_object _ sen))
    (Takes.of_laid hk hord tyM (by rw [Y.msgType]; exact fits_refV_object _ ⟨msg, hmsg⟩)) Y.objLocals hskip htr [] hd6
    (by simp only [List.length_cons, hlen, List.length_nil]; omega) (by simp only [List.length_cons, hlen, List.length_nil]; exact hRlocals)
  obtain ⟨hwalk, hrun, hended, hWU, hsame⟩ := X₂.athrowLeaves hexec (g := { g with stack := .ref a :: rest, pc := g.pc + 3 }) hg hlocked hentered hout (a := a) (rest := rest) rfl hd9
  have hlt : a < ((W.setVm vm₁).setVm vm₂).heap.size := (Array.getElem?_eq_some_iff.mp hcell).1
  have hU := heapAt_setCell_self (s := (W.setVm vm₁).setVm vm₂) (plainBareV T.toThrowableT (freshCell P1.m.cls kX) a u0 sen msg) hlt
  refine ⟨_, st1 _ (fun acts => ?_), hrun, hended, hWU, hsame.weaken (fun y hy hlt' => ?_) (Nat.le_refl _) (Nat.le_refl _), _, hU, rfl, hfound⟩
  · rw [doInvoke_state]
    exact st2 _ hwalk
  · rcases List.mem_append.mp hy with h1 | h1
    · exact h1
    · exfalso
      have hb : y.base = a := by
        simp only [List.mem_cons, List.not_mem_nil, or_false] at h1
        rcases h1 with rfl | rfl | rfl | rfl | rfl <;> rfl
      rw [hb] at hlt'
      exact Nat.not_lt.mpr hnew hlt'
end

/-! throws -/
theorem pz_atN : ∀ w ∈ (pz_at RX11 354).filter (fun w => !goodWord w), w ∈ [Cond.declares (pz_ini "java/lang/RuntimeException"), Cond.declares (pz_ini "java/lang/Exception"), Cond.declares (pz_ini "java/lang/Throwable"), Cond.castable pz_N pz_N] := by decide +kernel
theorem pz_otN : ∀ w ∈ Cond.classLink RX11 350 pz_N :: Cond.initialized pz_N :: pz_at RX11 354, vx_ot w = true := by decide +kernel
theorem pz_atI : ∀ w ∈ (vx_atS RX11 155 pz_I ["java/lang/RuntimeException", "java/lang/Exception"]).filter (fun w => !goodWord w), w ∈ [Cond.declares (pz_ini "java/lang/RuntimeException"), Cond.declares (pz_ini "java/lang/Exception"), Cond.declares (pz_ini "java/lang/Throwable"), Cond.castable pz_I pz_I] := by decide +kernel
theorem pz_otI : ∀ w ∈ Cond.classLink RX11 151 pz_I :: Cond.initialized pz_I :: vx_atS RX11 155 pz_I ["java/lang/RuntimeException", "java/lang/Exception"], vx_ot w = true := by decide +kernel
set_option maxRecDepth 100000 in
theorem pw_N : ∀ w ∈ (pz_at RX11 354).filter goodWord, w ∈ lw_tbl := by decide +kernel
set_option maxRecDepth 100000 in
theorem pw_I : ∀ w ∈ (vx_atS RX11 155 "java/lang/IllegalArgumentException" ["java/lang/RuntimeException", "java/lang/Exception"]).filter goodWord, w ∈ lw_tbl := by decide +kernel
theorem kw_N : ∀ w ∈ (pz_at RX11 354).filter goodWord, w ∈ kt_ := fun w h => kt_m (pw_N w h) (List.mem_filter.mp h).2
theorem kw_I : ∀ w ∈ (vx_atS RX11 155 pz_I ["java/lang/RuntimeException", "java/lang/Exception"]).filter goodWord, w ∈ kt_ := fun w h => kt_m (pw_I w h) (List.mem_filter.mp h).2
section
variable {p : Program} {l : Launch} {e : Env} {R : Room} {s : State} {m : MethodId} {args : Array Value} {below : List Frame} {meth : Method} {c : Code} {H : Heap} {locs : List Loc} {cells slots : Nat} {cc : ByteArray} {pc is mc ms : Nat} {A : Nat → Prop} {Qc : Array Value → State → Outcome → State → Prop} {ls : Array Slot} {rest : List Value} {Ts : List Cond} {e0 : Nat}
theorem pz_throwN {text : String} {sa : Nat} {XC : String → State → State → Prop} (hx9 : ∀ t : State, H.size ≤ t.heap.size → (∀ q : Nat, q < H.size → t.heap[q]? = H[q]?) → XC pz_N s t) (hsa : vk_R RX11 is text sa s) (hx : p.tables.exec = Jvm.exec) (hb : c.code = cc) (hl : l.stackTraces = false) (hown : s.vm.findClass RX11 = some m.cls) (hts : ∀ w ∈ Ts, w.before args s = true) (hk : Cond.classLink RX11 350 pz_N ∈ Ts) (hi : Cond.initialized pz_N ∈ Ts) (hg : ∀ w ∈ (pz_at RX11 354).filter goodWord, w ∈ Ts) (hB : pz_B s) (hZ : pz_s e0 A s s.heap) (hS : va_S A s.heap H locs) (hsize : ls.size = c.maxLocals)
    (d0 : decode cc pc = .ok (.new 350, 3)) (d3 : decode cc (pc + 3) = .ok (.dup, 1)) (d4 : decode cc (pc + 4) = .ok (.ldc_w is, 3)) (d7 : decode cc (pc + 7) = .ok (.invokespecial 354, 3)) (d10 : decode cc (pc + 10) = .ok (.athrow, 1)) (hout : ∀ x ∈ c.exceptionTable.toList, False)
    (hf : 5 < R.frames) (hlo : (rest.map fun v => v.category).sum + 82 ≤ R.locals) (hc : cells + 1 ≤ R.cells) (hs : slots + 6 ≤ R.slots) (hlocks : meth.locks = false) (hmc : cells + 1 ≤ mc) (hms : slots + 6 ≤ ms) :
    W p l e R s m args below meth c H locs cells slots (vx_MQ below Qc XC args s mc ms A) (F0 m pc ls rest) := by
  obtain ⟨b1, b2, b3, b4, -⟩ := hB
  have hat : ∀ w ∈ pz_at RX11 354, w.before args s = true := vx_hat (fun w hw => hts w (hg w hw)) pz_atN (vx_c (va_any rfl b1) (vx_c (va_any rfl b2) (vx_c (va_any rfl b3) (vx_c (va_any rfl b4) vx_n))))
  have hgood := pz_otN
  intro T hT X
  have htr : e.platform.stackTraces = false := (show e.platform.stackTraces = l.stackTraces by rw [X.admits.platform]).trans hl
  have Y := vx_rebase X (R' := { frames := R.frames, locals := R.locals, cells := 1, slots := 6 }) (Nat.le_refl _) (Nat.le_refl _) hc hs
  obtain ⟨s', hA⟩ : ∃ z, z = (T.setVm s.vm).setFrames (.invoking m args :: below) := ⟨_, rfl⟩
  rw [← hA] at Y
  have hvm : s'.vm = s.vm := by rw [hA]; rfl
  have hhp : s'.heap = H := by rw [hA]; exact hT
  have hW0 : s.WarmedH s'.vm := by rw [hvm]; exact State.WarmedH.refl s
  have hat' : ∀ w ∈ pz_at RX11 354, w.before args s' = true := fun w hw => vx_ot_at hW0 hvm.symm (hgood w (List.mem_cons_of_mem _ (List.mem_cons_of_mem _ hw))) (hat w hw)
  have hk' : (Cond.classLink RX11 350 pz_N).before args s' = true := vx_ot_at hW0 hvm.symm (hgood _ List.mem_cons_self) (hts _ hk)
  have hini' : (Cond.initialized pz_N).before args s' = true := vx_ot_at hW0 hvm.symm (hgood _ (List.mem_cons_of_mem _ List.mem_cons_self)) (hts _ hi)
  have hU' : vx_Zq Bundle.tN "UNASSIGNED_STACK" Bundle.steD A s' s'.heap := by rw [hhp]; exact vx_Zq.moved hW0.alike (hZ.2.2.1.kept hS.2.1)
  have hN' : vx_Zq Bundle.tN "SUPPRESSED_SENTINEL" Bundle.listD A s' s'.heap := by rw [hhp]; exact vx_Zq.moved hW0.alike (hZ.2.2.2.kept hS.2.1)
  have h : ∀ w ∈ pz_oa RX11 354, w.before args s' = true := vx_own hat' (vx_isRefq hU'.1) (vx_isRefq hN'.1) hU'.2.word hN'.2.word
  have hown' : s'.vm.findClass RX11 = some m.cls := by rw [hvm]; exact hown
  have hins : (Cond.instantiable pz_N 6).before args s' = true := h _ (by decide +kernel)
  obtain ⟨vm₁, cX, kX, hfX, hkX, -, -, X₁, st1⟩ := Y.newCold hx (own := RX11) (C := pz_N) (index := 350) (n := 6) hown' hk' hins hini'
    (g := F0 m pc ls rest) rfl (by rw [hb]; exact d0) (Nat.le_refl _) (Nat.le_refl _)
  generalize hT1 : (T.setVm vm₁).pushCell { cls := cX, slots := kX.instanceTypes.map defaultValue, vm := .none } = T1 at X₁ st1
  have hcat : (Value.ref T.heap.size).category = 1 := rfl
  have hcellA : T1.heap[T.heap.size]? = some (freshCell cX kX) := by rw [← hT1]; exact State.heap_pushCell_size _ _
  have d3' : decode c.code (pc + 3) = .ok (.dup, 1) := by rw [hb]; exact d3
  have d4' : decode c.code (pc + 4) = .ok (.ldc_w is, 3) := by rw [hb]; exact d4
  have hstr' : vk_R RX11 is text sa s' := vk_R.warm hW0 hsa
  obtain ⟨U, hsteps, hrun, hend, hW, hsame, ce, hce, hvn, hcn⟩ := pz_ctorN X₁ hx htr (own := RX11) (ic := 354) hown' h (fun x hx => nomatch hx) hfX hkX hcellA (by rw [hhp, hT]; exact Nat.le_refl _) (msg := .ref sa) rfl
    (g := { method := m, pc := pc + 7, locals := ls, stack := .ref sa :: .ref T.heap.size :: .ref T.heap.size :: rest, locked := none }) rfl hsize rfl rfl (rest := rest) rfl
    (by rw [hb]; exact d7) (by rw [hb]; exact d10) (fun x hx => (hout x hx).elim) hf (by simp only [List.map_cons, List.sum_cons, hcat]; omega) hlocks
  obtain ⟨f1, f2⟩ := vx_frame hsame
  rw [hhp] at f1 f2
  have hWs : s.WarmedH U.vm := State.WarmedH.trans hW0 hW
  have hcl : s.vm.findClass pz_N = some ce.cls := by
    have h9 := hcn
    rw [hvm] at h9
    exact h9
  have hall : s.sameButNew ({ U with vm := s.vm } : State) locs mc ms := by
    subst hA
    obtain ⟨e1, e2⟩ := hsame
    rw [State.setFrames_setFrames] at e1
    have h2 : (T.setVm s.vm).sameButNew ({ U with vm := s.vm } : State) [] (0 + 1) (0 + 6) := ⟨e1, e2⟩
    have h3 := X.same.trans h2
    rw [List.append_nil] at h3
    exact h3.mono hmc hms
  refine ⟨U, ?_, .threw T.heap.size, hrun, hend, Or.inr ⟨T.heap.size, rfl, pz_N, ce, locs, hx9 U f1 (fun q hq => f2 q hq (fun z hz => nomatch hz)), hce, hvn, hcl, hWs, hall, hS.2.2⟩⟩
  refine st1 _ ?_
  show Steps p.tables e below (T1.setTop { method := m, pc := pc + 3, locals := ls, stack := .ref T.heap.size :: rest, locked := none }) _
  jvm_step X₁.here [X₁.here.top, hx, d3', Value.category]
  exact X₁.ldcStringW hx (own := RX11) (text := text) (index := is) (a := sa) hown' hstr'.1 hstr'.2
    (g := { method := m, pc := pc + 4, locals := ls, stack := .ref T.heap.size :: .ref T.heap.size :: rest, locked := none }) rfl d4' _ hsteps
end
section
variable {p : Program} {l : Launch} {e : Env} {fr lo c0 : Nat} {s : State} {m : MethodId} {args : Array Value} {below : List Frame} {meth : Method} {c : Code} {H : Heap} {locs : List Loc} {Q : State → Prop}
variable {cc : ByteArray} {pc nL is : Nat} {ls : Array Slot} {rest : List Value} {G : kx_G} {σ σ0 : kx_S} {own : String} {Qc : Array Value → State → Outcome → State → Prop} {PX : String → kx_S → Prop}
/-- what is thrown here, and what it leaves -/
theorem kx_thrown {E0 : String} {g : JFrame} (C : kx_X G (xc σ0) s H locs σ) (hN : xc σ < kx_N) (hPX : PX E0 (xbump σ))
    (w0 : W p l e (kx_rm fr lo (xc σ0)) s m args below meth c H locs (xc σ - xc σ0) (600 * (xc σ - xc σ0)) (vx_MQ below (fun _ _ _ _ => False) (fun E _ t => E = E0 ∧ H.size ≤ t.heap.size ∧ ∀ q : Nat, q < H.size → t.heap[q]? = H[q]?) args s (xc σ - xc σ0 + 1) (600 * (xc σ - xc σ0) + 6) (kx_A G)) g) :
    kx_W p l e fr lo (xc σ0) s m args below meth c H locs σ (vx_MQ below Qc (kx_XC G σ0 PX) args s (kx_N - xc σ0) (600 * (kx_N - xc σ0)) (kx_A G)) g := by
  intro T hT X
  obtain ⟨t, st, o, hrun, hend, hq⟩ := w0 T hT X
  rcases hq with ⟨hf, -⟩ | ⟨q, rfl, E, ce, L, ⟨rfl, h1, h2⟩, hce, hv, hcl, hWs, hsame, hL⟩
  · exact hf.elim
  have hc0 := C.1
  have hS := C.2.2.2.1
  have h0 : s.slotsTrue = true := by
    have h := X.room
    simp only [State.hasRoom, Bool.and_eq_true] at h
    exact h.2
  have hb := kx_book (State.slotsTrue_of_sameButNew h0 hsame)
  have hsz : t.heap.size ≤ s.heap.size + (xc σ - xc σ0 + 1) := hsame.2.2.1
  have hus : t.slotsUsed = s.slotsUsed + ((t.heap.toList.drop s.heap.size).map (·.slots.size)).sum := hsame.2.2.2.1
  have hsu : ((t.heap.toList.drop s.heap.size).map (·.slots.size)).sum ≤ 600 * (xc σ - xc σ0) + 6 := hsame.2.2.2.2.1
  have hb' : t.slotsUsed = kx_tot t.heap := hb
  have hb0 := kx_book h0
  obtain ⟨L1, hL1, hP, hD⟩ := C.2.2.2.2
  have e1 : va_pl L1 (kx_e G σ) = va_pl L1 (kx_e G (xbump σ)) := va_pl_congr (fun a => kx_nbump.symm)
  refine ⟨t, st, .threw q, hrun, hend, Or.inr ⟨q, rfl, E, ce, L, ⟨xbump σ, hPX, ?_⟩, hce, hv, hcl, hWs, hsame.mono (by omega) (by omega), hL⟩⟩
  refine ⟨by show xc σ0 ≤ xc σ + 1; omega, ⟨C.2.1.1, by show xc σ + 1 ≤ kx_N; omega⟩, ⟨L1, hL1, ?_, ?_⟩, ⟨Nat.le_trans hS.1 h1, fun q hq hA => (h2 q (Nat.lt_of_lt_of_le hq hS.1)).trans (hS.2.1 q hq hA)⟩, ?_, ?_⟩
  · rw [← e1]
    exact hP.kept (fun k q hq => h2 q.1 (hP k q hq).lt)
  · rw [← e1]
    exact hD
  · show t.heap.size ≤ s.heap.size + (xc σ + 1 - xc σ0)
    omega
  · show kx_tot t.heap ≤ kx_tot s.heap + 600 * (xc σ + 1 - xc σ0)
    omega
/-- 'throw new NoSuchElementException("text")' -/
theorem kx_throwN {text : String} (hlt : l.stackTraces = false) (hq : (RX11, is, text) ∈ pz_strs) (F : CallFix p m c cc nL s args kt_ RX11) (C : kx_X G (xc σ0) s H locs σ) (hN : xc σ < kx_N) (hPX : PX pz_N (xbump σ)) (hsz : ls.size = nL) (hk : Cond.classLink RX11 350 pz_N ∈ kt_) (hi : Cond.initialized pz_N ∈ kt_)
    (d0 : decode cc pc = .ok (.new 350, 3)) (d3 : decode cc (pc + 3) = .ok (.dup, 1)) (d4 : decode cc (pc + 4) = .ok (.ldc_w is, 3)) (d7 : decode cc (pc + 7) = .ok (.invokespecial 354, 3)) (d10 : decode cc (pc + 10) = .ok (.athrow, 1)) (hout : ∀ x ∈ c.exceptionTable.toList, False) (hf : 5 < fr) (hlo : (rest.map fun v => v.category).sum + 82 ≤ lo) (hlocks : meth.locks = false) :
    kx_W p l e fr lo (xc σ0) s m args below meth c H locs σ (vx_MQ below Qc (kx_XC G σ0 PX) args s (kx_N - xc σ0) (600 * (kx_N - xc σ0)) (kx_A G)) (F0 m pc ls rest) := by
  obtain ⟨sa, hsa⟩ := C.2.2.1.2.2.2.1.1 _ hq
  have hc0 := C.1
  exact kx_thrown C hN hPX (pz_throwN (fun t h1 h2 => ⟨rfl, h1, h2⟩) hsa F.1 F.2.1 hlt F.2.2.2.1 F.2.2.2.2 hk hi kw_N C.2.2.1.2.2.2.1.2.2.2.1 C.2.2.1.2.2.1 C.2.2.2.1 (hsz.trans F.2.2.1.symm) d0 d3 d4 d7 d10 hout hf hlo (by show _ ≤ kx_N - _; omega) (by show _ ≤ 600 * (kx_N - _); omega) hlocks (Nat.le_refl _) (Nat.le_refl _))
/-- 'throw new IllegalArgumentException("text")' -/
theorem kx_throwI {text : String} (hlt : l.stackTraces = false) (hq : (RX11, is, text) ∈ pz_strs) (F : CallFix p m c cc nL s args kt_ RX11) (C : kx_X G (xc σ0) s H locs σ) (hN : xc σ < kx_N) (hPX : PX pz_I (xbump σ)) (hsz : ls.size = nL) (hk : Cond.classLink RX11 151 pz_I ∈ kt_) (hi : Cond.initialized pz_I ∈ kt_)
    (d0 : decode cc pc = .ok (.new 151, 3)) (d3 : decode cc (pc + 3) = .ok (.dup, 1)) (d4 : decode cc (pc + 4) = .ok (.ldc is, 2)) (d7 : decode cc (pc + 6) = .ok (.invokespecial 155, 3)) (d10 : decode cc (pc + 9) = .ok (.athrow, 1)) (hout : ∀ x ∈ c.exceptionTable.toList, False) (hf : 5 < fr) (hlo : (rest.map fun v => v.category).sum + 82 ≤ lo) (hlocks : meth.locks = false) :
    kx_W p l e fr lo (xc σ0) s m args below meth c H locs σ (vx_MQ below Qc (kx_XC G σ0 PX) args s (kx_N - xc σ0) (600 * (kx_N - xc σ0)) (kx_A G)) (F0 m pc ls rest) := by
  obtain ⟨sa, hsa⟩ := C.2.2.1.2.2.2.1.1 _ hq
  obtain ⟨b1, b2, b3, -, b4⟩ := C.2.2.1.2.2.2.1.2.2.2.1
  have hc0 := C.1
  have hZ := C.2.2.1.2.2.1
  exact kx_thrown C hN hPX (vx_throwS (own := RX11) (cls := pz_I) (text := text) (names := ["java/lang/RuntimeException", "java/lang/Exception"]) (sa := sa) (A := kx_A G) F.1 F.2.1 hlt F.2.2.2.1 (by decide +kernel) (by decide +kernel) (F.2.2.2.2 _ hk) (F.2.2.2.2 _ hi) hsa (vx_hat (fun w hw => F.2.2.2.2 w (kw_I w hw)) pz_atI (vx_c (va_any rfl b1) (vx_c (va_any rfl b2) (vx_c (va_any rfl b3) (vx_c (va_any rfl b4) vx_n))))) pz_otI hZ.2.2.1 hZ.2.2.2 C.2.2.2.1 (hsz.trans F.2.2.1.symm) d0 d3 d4 d7 d10 (fun x hx => (hout x hx).elim) hf hlo (by show _ ≤ kx_N - _; omega) (by show _ ≤ 600 * (kx_N - _); omega) hlocks (fun t _ h1 h2 => ⟨rfl, h1, h2⟩) C.2.2.2.1.2.2 (Nat.le_refl _) (Nat.le_refl _))
/-- a call that may throw -/
theorem kx_callX {mc ms : Nat} {P : Option Value → kx_S → Prop} {PY : String → kx_S → Prop} {st0 : List Value} {a : Array Value} (C : kx_X G c0 s H locs σ)
    (hr : vx_Run p l e (kx_rm fr lo c0) s m args below meth c H locs (xc σ - c0) (600 * (xc σ - c0)) mc ms (F0 m pc ls st0) rest (kx_Q G σ P a) (kx_XC G σ PY) (kx_A G))
    (kx : ∀ (E : String) (ce : Cell) (q9 : Addr) (u : kx_S) (H1 : Heap) (locs1 : List Loc), PY E u → kx_X G c0 s H1 locs1 u → H1[q9]? = some ce → ce.vm = .none → s.vm.findClass E = some ce.cls → vx_W p l e (kx_rm fr lo c0) s m args below meth c H1 locs1 (xc u - c0) (600 * (xc u - c0)) Q (F0 m pc ls rest) q9)
    (kk : ∀ (v : Option Value) (u : kx_S) (H1 : Heap) (locs1 : List Loc), P v u → kx_X G c0 s H1 locs1 u → kx_W p l e fr lo c0 s m args below meth c H1 locs1 u Q (F0 m (pc + 3) ls (v.toList ++ rest))) : kx_W p l e fr lo c0 s m args below meth c H locs σ Q (F0 m pc ls st0) := by
  intro T hT X
  have hs := kx_stand X
  rw [hT] at hs
  have hcc := C.1
  have hS := C.2.2.2.1
  have key : ∀ (u : kx_S) (st₀ t T' : State) (L : List Loc), st₀.heap = H → T'.heap = t.heap → (∀ q ∈ L, kx_A G q.base) → kx_E G (xc σ) u st₀ t → kx_X G c0 s T'.heap (locs ++ L) u ∧ kx_gr (xc u - c0) s.heap T'.heap := by
    intro u st₀ t T' L h0 e1 hL hE
    obtain ⟨h1, h2, h3, h4, h5⟩ := hE
    rw [h0] at h5
    have hg := kx_gr.trans (j := xc σ - c0) (H0 := s.heap) hs h5
    rw [show xc σ - c0 + (xc u - xc σ) = xc u - c0 by omega] at hg
    rw [← e1] at hg
    have hF := h4
    rw [va_F, h0] at hF
    refine ⟨⟨Nat.le_trans hcc h1, h2, C.2.2.1, ⟨Nat.le_trans hS.1 (by rw [e1]; exact hF.1), fun q g1 g2 => by rw [e1, hF.2 q (Nat.lt_of_lt_of_le g1 hS.1) g2]; exact hS.2.1 q g1 g2, fun q hq => ?_⟩, by rw [e1]; exact h3⟩, hg⟩
    rcases List.mem_append.mp hq with h | h
    · exact hS.2.2 q h
    · exact hL q h
  rcases hr T hT X with ⟨v, st₀, t, T', L, h0, X', hL, e1, e2, ⟨v', u, hv, hp, hE⟩, st⟩ | ⟨q, st₀, t, T', L, E, ce, h0, X', hL, e1, e2, ⟨u, hp, hE⟩, hce, hcv, hcl, st⟩
  · cases hv
    obtain ⟨g1, g2⟩ := key u st₀ t T' L h0 e1 hL hE
    obtain ⟨t2, a1, b1⟩ := kk v u T'.heap (locs ++ L) hp g1 T' rfl (kx_standT X' g2.1 g2.2)
    exact ⟨t2, st t2 a1, b1⟩
  · obtain ⟨g1, g2⟩ := key u st₀ t T' L h0 e1 hL hE
    obtain ⟨t2, a1, b1⟩ := kx E ce q u T'.heap (locs ++ L) hp g1 (by rw [e1]; exact hce) hcv hcl T' rfl (kx_standT X' g2.1 g2.2)
    exact ⟨t2, st.trans a1, b1⟩
/-- what is thrown there goes on -/
theorem kx_out {E : String} {ce : Cell} {q : Addr} (C : kx_X G (xc σ0) s H locs σ) (hPX : PX E σ) (hce : H[q]? = some ce) (hcv : ce.vm = .none) (hcl : s.vm.findClass E = some ce.cls) (hout : ∀ x ∈ c.exceptionTable.toList, False) (hlocks : meth.locks = false) :
    vx_W p l e (kx_rm fr lo (xc σ0)) s m args below meth c H locs (xc σ - xc σ0) (600 * (xc σ - xc σ0)) (vx_MQ below Qc (kx_XC G σ0 PX) args s (kx_N - xc σ0) (600 * (kx_N - xc σ0)) (kx_A G)) (F0 m pc ls rest) q := by
  intro T hT X
  have hs := kx_stand X
  rw [hT] at hs
  have h1 := C.2.1.2
  exact vx_out (E := E) (fun x hx9 => (hout x hx9).elim) hlocks hce hcv hcl (fun t9 ht9 _ => ⟨σ, hPX, C.1, C.2.1, by rw [ht9]; exact C.2.2.2.2, C.2.2.2.1.F ht9, by rw [ht9]; exact hs⟩) C.2.2.2.1.2.2 (by omega) (by omega) T hT X
theorem kx_cVX {y : MethodName} {bytes : ByteArray} {maxL f1 l1 n index b : Nat} {ret : Option FieldType} {As : List Value} {P : Option Value → kx_S → Prop} {PY : String → kx_S → Prop} {Cn : String} (F : CallFix p m c cc nL s args kt_ own) (C : kx_X G c0 s H locs σ) (hM : kx_MX l G y bytes maxL ret f1 l1 (.ref b :: As) σ P PY)
    (hT : GoodIn kt_ (wsV own index Cn y (kt_w y bytes maxL ret))) (hd : y.cls = Cn ∧ y.cls ≠ "java/lang/invoke/MethodHandle" ∧ y.cls ≠ "java/lang/invoke/VarHandle" ∧ (parseMethodDescriptor y.desc).map (fun d => d.parameters.length) = some n) (hR : f1 + 1 ≤ fr ∧ 8 + (maxL + 11) + l1 ≤ lo) (hrc : ∃ cell : Cell, H[b]? = some cell ∧ cell.vm.isStatics = false ∧ s.vm.findClass Cn = some cell.cls) (hn : As.length = n) (hsz : ls.size = nL) (hW : (rest.map fun v => v.category).sum ≤ 8) (hdg : decode cc pc = .ok (.invokevirtual index, 3))
    (kx : ∀ (E : String) (ce : Cell) (q9 : Addr) (u : kx_S) (H1 : Heap) (locs1 : List Loc), PY E u → kx_X G c0 s H1 locs1 u → H1[q9]? = some ce → ce.vm = .none → s.vm.findClass E = some ce.cls → vx_W p l e (kx_rm fr lo c0) s m args below meth c H1 locs1 (xc u - c0) (600 * (xc u - c0)) Q (F0 m pc ls rest) q9)
    (kk : ∀ (v : Option Value) (u : kx_S) (H1 : Heap) (locs1 : List Loc), P v u → kx_X G c0 s H1 locs1 u → kx_W p l e fr lo c0 s m args below meth c H1 locs1 u Q (F0 m (pc + 3) ls (v.toList ++ rest))) : kx_W p l e fr lo c0 s m args below meth c H locs σ Q (F0 m pc ls (As.reverse ++ .ref b :: rest)) :=
  kx_callX C (vx_runV (As := As) (rest := rest) F hM (cwV n F.2.2.2.2 hT rfl rfl rfl hd hR) ⟨kx_blind, hrc, fun U hU hW9 => ⟨rfl, kx_pre C U hU hW9⟩⟩ rfl hn hsz rfl (lv_room hW) hdg (kx_room C)) kx kk
theorem kx_cSX {y : MethodName} {bytes : ByteArray} {maxL f1 l1 n index : Nat} {ret : Option FieldType} {As : List Value} {P : Option Value → kx_S → Prop} {PY : String → kx_S → Prop} (F : CallFix p m c cc nL s args kt_ own) (C : kx_X G c0 s H locs σ) (hM : kx_MX l G y bytes maxL ret f1 l1 As σ P PY)
    (hT : GoodIn kt_ (va_wsS own index y (kt_w y bytes maxL ret))) (hd : y.cls ≠ "java/lang/invoke/MethodHandle" ∧ y.cls ≠ "java/lang/invoke/VarHandle" ∧ (parseMethodDescriptor y.desc).map (fun d => d.parameters.length) = some n) (hR : f1 + 1 ≤ fr ∧ 8 + (maxL + 11) + l1 ≤ lo) (hn : As.length = n) (hsz : ls.size = nL) (hW : (rest.map fun v => v.category).sum ≤ 8) (hdg : decode cc pc = .ok (.invokestatic index, 3))
    (kx : ∀ (E : String) (ce : Cell) (q9 : Addr) (u : kx_S) (H1 : Heap) (locs1 : List Loc), PY E u → kx_X G c0 s H1 locs1 u → H1[q9]? = some ce → ce.vm = .none → s.vm.findClass E = some ce.cls → vx_W p l e (kx_rm fr lo c0) s m args below meth c H1 locs1 (xc u - c0) (600 * (xc u - c0)) Q (F0 m pc ls rest) q9)
    (kk : ∀ (v : Option Value) (u : kx_S) (H1 : Heap) (locs1 : List Loc), P v u → kx_X G c0 s H1 locs1 u → kx_W p l e fr lo c0 s m args below meth c H1 locs1 u Q (F0 m (pc + 3) ls (v.toList ++ rest))) : kx_W p l e fr lo c0 s m args below meth c H locs σ Q (F0 m pc ls (As.reverse ++ rest)) :=
  kx_callX C (vx_runS (As := As) (rest := rest) F hM (va_cwS n F.2.2.2.2 hT rfl rfl rfl hd hR) ⟨kx_blind, fun U hU hW9 => ⟨rfl, kx_pre C U hU hW9⟩⟩ rfl hn hsz rfl (lv_room hW) hdg (kx_room C)) kx kk
/-- a call by an interface -/
theorem kx_call5 {mc ms : Nat} {P : Option Value → kx_S → Prop} {st0 : List Value} {a : Array Value} (C : kx_X G c0 s H locs σ)
    (hr : va_Run5 p l e (kx_rm fr lo c0) s m args below meth c H locs (xc σ - c0) (600 * (xc σ - c0)) mc ms (F0 m pc ls st0) rest (kx_Q G σ P a) (kx_A G))
    (kk : ∀ (v : Option Value) (u : kx_S) (H1 : Heap) (locs1 : List Loc), P v u → kx_X G c0 s H1 locs1 u → kx_W p l e fr lo c0 s m args below meth c H1 locs1 u Q (F0 m (pc + 5) ls (v.toList ++ rest))) : kx_W p l e fr lo c0 s m args below meth c H locs σ Q (F0 m pc ls st0) := by
  intro T hT X
  obtain ⟨v, st₀, t, T', L, h0, X', hL, e1, e2, ⟨v', u, hv, hp, h1, h2, h3, h4, h5⟩, st⟩ := hr T hT X
  cases hv
  have hs := kx_stand X
  rw [hT] at hs
  rw [h0] at h5
  have hg := kx_gr.trans (j := xc σ - c0) (H0 := s.heap) hs h5
  have hcc := C.1
  rw [show xc σ - c0 + (xc u - xc σ) = xc u - c0 by omega] at hg
  rw [← e1] at hg
  have hS := C.2.2.2.1
  have hF := h4
  rw [va_F, h0] at hF
  have hS1 : va_S (kx_A G) s.heap T'.heap (locs ++ L) := ⟨Nat.le_trans hS.1 (by rw [e1]; exact hF.1), fun q g1 g2 => by rw [e1, hF.2 q (Nat.lt_of_lt_of_le g1 hS.1) g2]; exact hS.2.1 q g1 g2, fun q hq => by
      rcases List.mem_append.mp hq with h | h
      · exact hS.2.2 q h
      · exact hL q h⟩
  obtain ⟨t2, a1, b1⟩ := kk v u T'.heap (locs ++ L) hp ⟨Nat.le_trans hcc h1, h2, C.2.2.1, hS1, by rw [e1]; exact h3⟩ T' rfl (kx_standT X' hg.1 hg.2)
  exact ⟨t2, st t2 a1, b1⟩
theorem kx_cF {x y : MethodName} {bytes : ByteArray} {maxL f1 l1 n index count b : Nat} {ret : Option FieldType} {As : List Value} {P : Option Value → kx_S → Prop} (F : CallFix p m c cc nL s args kt_ own) (C : kx_X G c0 s H locs σ) (ha : xt σ b = 1) (hM : kx_M l G y bytes maxL ret f1 l1 (.ref b :: As) σ P)
    (h1 : Cond.methodLink own index x ∈ kt_) (h2 : Cond.selects RJx4a65c x y ∈ kt_) (h3 : Cond.instanceMethod y ∈ kt_) (h4 : Cond.initialized y.cls ∈ kt_) (h5 : Cond.code y bytes maxL ret ∈ kt_) (hF : va_Fw RJx4a65c x y s) (hd : x.cls ≠ "java/lang/invoke/MethodHandle" ∧ x.cls ≠ "java/lang/invoke/VarHandle" ∧ (parseMethodDescriptor x.desc).map (fun d => d.parameters.length) = some n) (hR : f1 + 1 ≤ fr ∧ 8 + (maxL + 11) + l1 ≤ lo) (hn : As.length = n) (hsz : ls.size = nL) (hW : (rest.map fun v => v.category).sum ≤ 8) (hdg : decode cc pc = .ok (.invokeinterface index count, 5))
    (kk : ∀ (v : Option Value) (u : kx_S) (H1 : Heap) (locs1 : List Loc), P v u → kx_X G c0 s H1 locs1 u → kx_W p l e fr lo c0 s m args below meth c H1 locs1 u Q (F0 m (pc + 5) ls (v.toList ++ rest))) : kx_W p l e fr lo c0 s m args below meth c H locs σ Q (F0 m pc ls (As.reverse ++ .ref b :: rest)) := by
  have hT : GoodIn kt_ (va_wsF own index RJx4a65c x y (kt_w y bytes maxL ret)) := by
    intro w hw
    rcases List.mem_append.mp hw with hw | hw
    · simp only [List.mem_cons, List.not_mem_nil, or_false] at hw
      rcases hw with rfl | rfl | rfl | rfl
      · exact ⟨h1, kt_good h1⟩
      · exact ⟨h2, kt_good h2⟩
      · exact ⟨h3, kt_good h3⟩
      · exact ⟨h4, kt_good h4⟩
    · exact kt_c h5 w hw
  exact kx_call5 C (va_runF (As := As) (rest := rest) (C.2.2.1.1.1 0 _ rfl).2 F hM (va_cwF n F.2.2.2.2 hT rfl rfl rfl hF hd hR) ⟨kx_blind, kx_recv C (by rw [ha]; decide) (kx_e1 ha) rfl, fun U hU hW9 => ⟨rfl, kx_pre C U hU hW9⟩⟩ rfl hn hsz rfl (lv_room hW) hdg (kx_room C)) kk
end

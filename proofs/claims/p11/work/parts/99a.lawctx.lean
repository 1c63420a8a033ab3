/-! the law's own context: the class's world and the reference's, side by side -/
theorem pz_s.narrow {e0 : Nat} {A B : Nat → Prop} {U : State} {H : Heap} (h : pz_s e0 A U H) (hAB : ∀ q, B q → A q) : pz_s e0 B U H := ⟨h.1.narrow hAB, h.2.1.narrow hAB, h.2.2.1.narrow hAB, h.2.2.2.narrow hAB⟩
abbrev lx_A (s : State) : Nat → Prop := fun q => s.heap.size ≤ q
/-- what doesn't change -/
def lx_G (G : kx_G) (M : km_G) (s : State) : Prop := va_K G.1 vwCl (kx_ty G) s ∧ pz_s (kx_z G) (lx_A s) s s.heap ∧ kx_V G s ∧ ks_S G.2.2.2.2.2.1 G.2.2.2.2.2.2.1 (lx_A s) s s.heap ∧ va_K M.2.2.1 vwCl (km_ty M) s ∧ ks_S M.2.2.2.1 M.2.2.2.2 (lx_A s) s s.heap ∧ km_R M.2.2.2.1 s ∧ (∀ q, kx_A G q ↔ s.heap.size ≤ q ∧ ¬ km_A M q) ∧ (∀ q, km_A M q → s.heap.size ≤ q)
def lx_C (G : kx_G) (M : km_G) (s : State) (H : Heap) (locs : List Loc) (σ : kx_S) (μ : km_S) : Prop := va_S (lx_A s) s.heap H locs ∧ lx_G G M s ∧ ((xz σ = kx_z G ∧ xc σ ≤ kx_N) ∧ kx_P G σ H) ∧ (va_P M.2.2.1 vwCl (km_w M μ) H ∧ va_D (km_A M) (km_w M μ)) ∧ (∀ q, km_A M q → q < H.size)
section
variable {p : Program} {l : Launch} {e : Env} {s : State} {m : MethodId} {args : Array Value} {below : List Frame} {meth : Method} {c : Code} {H : Heap} {locs : List Loc} {Q : State → Prop}
variable {cc : ByteArray} {pc nL : Nat} {ls : Array Slot} {rest : List Value} {G : kx_G} {M : km_G} {σ : kx_S} {μ : km_S}
abbrev lx_W (p : Program) (l : Launch) (e : Env) (s : State) (m : MethodId) (args : Array Value) (below : List Frame) (meth : Method) (c : Code) (H : Heap) (locs : List Loc) (σ : kx_S) (Q : State → Prop) (g : JFrame) : Prop :=
  W p l e room_1 s m args below meth c H locs (100 + xc σ) (60000 + 600 * xc σ) Q g
theorem lx_sub (C : lx_C G M s H locs σ μ) : ∀ q, kx_A G q → lx_A s q := fun q h => ((C.2.1.2.2.2.2.2.2.2.1 q).1 h).1
theorem lx_new (C : lx_C G M s H locs σ μ) : ∀ q, H.size ≤ q → kx_A G q := fun q h => (C.2.1.2.2.2.2.2.2.2.1 q).2 ⟨Nat.le_trans C.1.1 h, fun x => Nat.not_le.mpr (C.2.2.2.2 q x) h⟩
theorem lx_pre (C : lx_C G M s H locs σ μ) : ∀ U : State, U.heap = H → s.WarmedH U.vm → kx_B G σ U := fun U hU hW =>
  ⟨C.2.2.1.1, ⟨va_K.moved hW.alike C.2.1.1, by rw [hU]; exact lx_new C, by rw [hU]; exact ((C.2.1.2.1.kept C.1.2.1).narrow (lx_sub C)).moved hW.alike, C.2.1.2.2.1.warm hW, by rw [hU]; exact ((C.2.1.2.2.2.1.kept C.1.2.1).narrow (lx_sub C)).moved hW.alike⟩, by rw [hU]; exact C.2.2.1.2⟩
theorem lx_preM (C : lx_C G M s H locs σ μ) : ∀ U : State, U.heap = H → s.WarmedH U.vm → km_B M μ U := fun U hU hW =>
  ⟨va_K.moved hW.alike C.2.1.2.2.2.2.1, by rw [hU]; exact C.2.2.2.1.1, C.2.2.2.1.2, by rw [hU]; exact ((C.2.1.2.2.2.2.2.1.kept C.1.2.1).narrow C.2.1.2.2.2.2.2.2.2.2).moved hW.alike, C.2.1.2.2.2.2.2.2.1.warm hW⟩
/-- behind a call of the class -/
theorem lx_key {u : kx_S} {st₀ t T' : State} {L : List Loc} (C : lx_C G M s H locs σ μ) (hs : H.size ≤ s.heap.size + (100 + xc σ) ∧ kx_tot H ≤ kx_tot s.heap + (60000 + 600 * xc σ)) (h0 : st₀.heap = H) (e1 : T'.heap = t.heap) (hL : ∀ q ∈ L, kx_A G q.base) (hE : kx_E G (xc σ) u st₀ t) : lx_C G M s T'.heap (locs ++ L) u μ ∧ (T'.heap.size ≤ s.heap.size + (100 + xc u) ∧ kx_tot T'.heap ≤ kx_tot s.heap + (60000 + 600 * xc u)) := by
  obtain ⟨h1, h2, h3, h4, h5⟩ := hE
  rw [h0] at h5
  rw [← e1] at h5
  have hF := h4
  rw [va_F, h0] at hF
  rw [← e1] at hF
  have hS := C.1
  have nA : ∀ q, km_A M q → ¬ kx_A G q := fun q h x => ((C.2.1.2.2.2.2.2.2.2.1 q).1 x).2 h
  refine ⟨⟨⟨Nat.le_trans hS.1 hF.1, fun q g1 g2 => by rw [hF.2 q (Nat.lt_of_lt_of_le g1 hS.1) (fun x => g2 (lx_sub C q x))]; exact hS.2.1 q g1 g2, fun q hq => ?_⟩, C.2.1, ⟨h2, by rw [e1]; exact h3⟩, ⟨C.2.2.2.1.1.kept (fun k q hq => ?_), C.2.2.2.1.2⟩, fun q h => Nat.lt_of_lt_of_le (C.2.2.2.2 q h) hF.1⟩, ?_⟩
  · rcases List.mem_append.mp hq with h | h
    · exact hS.2.2 q h
    · exact lx_sub C _ (hL q h)
  · have hq2 := C.2.2.2.1.2.2 k q hq
    exact hF.2 q.1 (C.2.2.2.2 _ hq2) (nA _ hq2)
  · have g1 := h5.1
    have g2 := h5.2
    constructor <;> omega
theorem lx_call {mc ms : Nat} {P : Option Value → kx_S → Prop} {st0 : List Value} {a : Array Value} (C : lx_C G M s H locs σ μ)
    (hr : va_Run p l e room_1 s m args below meth c H locs (100 + xc σ) (60000 + 600 * xc σ) mc ms (F0 m pc ls st0) rest (kx_Q G σ P a) (kx_A G))
    (kk : ∀ (v : Option Value) (u : kx_S) (H1 : Heap) (locs1 : List Loc), P v u → lx_C G M s H1 locs1 u μ → lx_W p l e s m args below meth c H1 locs1 u Q (F0 m (pc + 3) ls (v.toList ++ rest))) : lx_W p l e s m args below meth c H locs σ Q (F0 m pc ls st0) := by
  intro T hT X
  have hs := kx_stand X
  rw [hT] at hs
  obtain ⟨v, st₀, t, T', L, h0, X', hL, e1, e2, ⟨v', u, hv, hp, hE⟩, st⟩ := hr T hT X
  cases hv
  obtain ⟨g1, g2⟩ := lx_key C hs h0 e1 hL hE
  obtain ⟨t2, a1, b1⟩ := kk v u T'.heap (locs ++ L) hp g1 T' rfl (kx_standT X' g2.1 g2.2)
  exact ⟨t2, st t2 a1, b1⟩
theorem lx_callX {mc ms : Nat} {P : Option Value → kx_S → Prop} {st0 : List Value} {a : Array Value} (C : lx_C G M s H locs σ μ)
    (hr : vx_Run p l e room_1 s m args below meth c H locs (100 + xc σ) (60000 + 600 * xc σ) mc ms (F0 m pc ls st0) rest (kx_Q G σ P a) (kx_XC G σ (fun _ _ => False)) (kx_A G))
    (kk : ∀ (v : Option Value) (u : kx_S) (H1 : Heap) (locs1 : List Loc), P v u → lx_C G M s H1 locs1 u μ → lx_W p l e s m args below meth c H1 locs1 u Q (F0 m (pc + 3) ls (v.toList ++ rest))) : lx_W p l e s m args below meth c H locs σ Q (F0 m pc ls st0) := by
  intro T hT X
  have hs := kx_stand X
  rw [hT] at hs
  rcases hr T hT X with ⟨v, st₀, t, T', L, h0, X', hL, e1, e2, ⟨v', u, hv, hp, hE⟩, st⟩ | ⟨q, st₀, t, T', L, E, ce, h0, X', hL, e1, e2, ⟨u, hp, hE⟩, hce, hcv, hcl, st⟩
  · cases hv
    obtain ⟨g1, g2⟩ := lx_key C hs h0 e1 hL hE
    obtain ⟨t2, a1, b1⟩ := kk v u T'.heap (locs ++ L) hp g1 T' rfl (kx_standT X' g2.1 g2.2)
    exact ⟨t2, st t2 a1, b1⟩
  · exact hp.elim
theorem lx_room (C : lx_C G M s H locs σ μ) : 100 + xc σ + (kx_N - xc σ) ≤ room_1.cells ∧ 60000 + 600 * xc σ + 600 * (kx_N - xc σ) ≤ room_1.slots := by
  have h2 := C.2.2.1.1.2
  have n : kx_N = 10000 := rfl
  constructor
  · show _ ≤ 601024; omega
  · show _ ≤ 7293034; omega
theorem lx_recv {a ci : Nat} {r : vw_C} {fs : List Value} (C : lx_C G M s H locs σ μ) (ha : xt σ a ≠ 0) (he : kx_e G σ a = .inr (ci, fs)) (hc : vwCl[ci]? = some r) : ∃ cell : Cell, H[a]? = some cell ∧ cell.vm.isStatics = false ∧ s.vm.findClass r.1 = some cell.cls := by
  obtain ⟨L, hL, hP, hD⟩ := C.2.2.1.2
  obtain ⟨j, hj⟩ := List.mem_iff_getElem?.mp (hL a ha)
  have h1 : (va_pl L (kx_e G σ))[j]? = some (a, .inr (ci, fs)) := by rw [va_pl, List.getElem?_map, hj]; exact congrArg some (Prod.ext rfl he)
  exact va_recv C.2.1.1 hP hc h1
/-- a call of the class, one that doesn't throw -/
theorem lx_cV {y : MethodName} {bytes : ByteArray} {maxL f1 l1 n index b : Nat} {ret : Option FieldType} {As : List Value} {P : Option Value → kx_S → Prop} (F : CallFix p m c cc nL s args kt_ RL) (C : lx_C G M s H locs σ μ) (hM : kx_M l G y bytes maxL ret f1 l1 (.ref b :: As) σ P)
    (hT : GoodIn kt_ (wsV RL index RX11 y (kt_w y bytes maxL ret))) (hd : y.cls = RX11 ∧ y.cls ≠ "java/lang/invoke/MethodHandle" ∧ y.cls ≠ "java/lang/invoke/VarHandle" ∧ (parseMethodDescriptor y.desc).map (fun d => d.parameters.length) = some n) (hR : f1 + 1 ≤ room_1.frames ∧ 8 + (maxL + 11) + l1 ≤ room_1.locals) (hb : xt σ b = 13) (hn : As.length = n) (hsz : ls.size = nL) (hW : (rest.map fun v => v.category).sum ≤ 8) (hdg : decode cc pc = .ok (.invokevirtual index, 3))
    (kk : ∀ (v : Option Value) (u : kx_S) (H1 : Heap) (locs1 : List Loc), P v u → lx_C G M s H1 locs1 u μ → lx_W p l e s m args below meth c H1 locs1 u Q (F0 m (pc + 3) ls (v.toList ++ rest))) : lx_W p l e s m args below meth c H locs σ Q (F0 m pc ls (As.reverse ++ .ref b :: rest)) :=
  lx_call C (va_runV (As := As) (rest := rest) F hM (cwV n F.2.2.2.2 hT rfl rfl rfl hd hR) ⟨kx_blind, lx_recv C (by rw [hb]; decide) (kx_e13 hb) rfl, fun U hU hW9 => ⟨rfl, lx_pre C U hU hW9⟩⟩ rfl hn hsz rfl (lv_room hW) hdg (lx_room C)) kk
/-- behind a call of the reference -/
theorem lx_keyM {μ' : km_S} {t : State} {H1 : Heap} {locs1 : List Loc} (C : lx_C G M s H locs σ μ) (ht : t.heap = H1) (hE : km_E M μ' t) (hz : H.size ≤ H1.size) (hk : ∀ q : Nat, q < H.size → ¬ km_A M q → H1[q]? = H[q]?) (hS : va_S (lx_A s) s.heap H1 locs1) : lx_C G M s H1 locs1 σ μ' := by
  obtain ⟨L, hL, hP, hD⟩ := C.2.2.1.2
  refine ⟨hS, C.2.1, ⟨C.2.2.1.1, L, hL, hP.kept (fun k q hq => hk q.1 (hP k q hq).lt (fun x => ?_)), hD⟩, ⟨by rw [← ht]; exact hE, km_D C.2.2.2.1.2⟩, fun q h => Nat.lt_of_lt_of_le (C.2.2.2.2 q h) hz⟩
  exact ((C.2.1.2.2.2.2.2.2.2.1 q.1).1 (hD.2 k q hq)).2 x
theorem lx_recvM (C : lx_C G M s H locs σ μ) : ∃ cell : Cell, H[M.1 0]? = some cell ∧ cell.vm.isStatics = false ∧ s.vm.findClass RX12 = some cell.cls := va_recv C.2.1.2.2.2.2.1 C.2.2.2.1.1 (ci := 13) (q0 := 0) rfl rfl
theorem lx_mVi {y : MethodName} {bytes : ByteArray} {maxL fr lo n index : Nat} {ret : Option FieldType} {As : List Value} {P : Int32 → km_S → Prop} (F : CallFix p m c cc nL s args kt_ RL) (C : lx_C G M s H locs σ μ) (hM : km_M l M y bytes maxL ret fr lo (.ref (M.1 0) :: As) μ (km_Qi M P))
    (hT : GoodIn kt_ (wsV RL index RX12 y (kt_w y bytes maxL ret))) (hd : y.cls = RX12 ∧ y.cls ≠ "java/lang/invoke/MethodHandle" ∧ y.cls ≠ "java/lang/invoke/VarHandle" ∧ (parseMethodDescriptor y.desc).map (fun d => d.parameters.length) = some n) (hR : fr + 1 ≤ room_1.frames ∧ 8 + (maxL + 11) + lo ≤ room_1.locals) (hn : As.length = n) (hsz : ls.size = nL) (hW : (rest.map fun v => v.category).sum ≤ 8) (hdg : decode cc pc = .ok (.invokevirtual index, 3))
    (kk : ∀ (r : Int32) (μ' : km_S) (H1 : Heap) (locs1 : List Loc), P r μ' → lx_C G M s H1 locs1 σ μ' → lx_W p l e s m args below meth c H1 locs1 σ Q (F0 m (pc + 3) ls (.int r :: rest))) : lx_W p l e s m args below meth c H locs σ Q (F0 m pc ls (As.reverse ++ .ref (M.1 0) :: rest)) :=
  va_calli (va_runV (As := As) (rest := rest) F hM (cwV n F.2.2.2.2 hT rfl rfl rfl hd hR) ⟨km_blind, lx_recvM C, fun U hU hW9 => ⟨rfl, lx_preM C U hU hW9⟩⟩ rfl hn hsz rfl (lv_room hW) hdg ⟨by have := (lx_room C).1; omega, by have := (lx_room C).2; omega⟩) C.1 (fun q _ h => C.2.1.2.2.2.2.2.2.2.2 q h) (fun q h => C.2.1.2.2.2.2.2.2.2.2 q h)
    (fun r u t H1 locs1 ht _ hp hE hz hk hS => kk r u H1 locs1 hp (lx_keyM C ht hE hz hk hS))
theorem lx_mVl {y : MethodName} {bytes : ByteArray} {maxL fr lo n index : Nat} {ret : Option FieldType} {As : List Value} {P : Int64 → km_S → Prop} (F : CallFix p m c cc nL s args kt_ RL) (C : lx_C G M s H locs σ μ) (hM : km_M l M y bytes maxL ret fr lo (.ref (M.1 0) :: As) μ (km_Ql M P))
    (hT : GoodIn kt_ (wsV RL index RX12 y (kt_w y bytes maxL ret))) (hd : y.cls = RX12 ∧ y.cls ≠ "java/lang/invoke/MethodHandle" ∧ y.cls ≠ "java/lang/invoke/VarHandle" ∧ (parseMethodDescriptor y.desc).map (fun d => d.parameters.length) = some n) (hR : fr + 1 ≤ room_1.frames ∧ 8 + (maxL + 11) + lo ≤ room_1.locals) (hn : As.length = n) (hsz : ls.size = nL) (hW : (rest.map fun v => v.category).sum ≤ 8) (hdg : decode cc pc = .ok (.invokevirtual index, 3))
    (kk : ∀ (r : Int64) (μ' : km_S) (H1 : Heap) (locs1 : List Loc), P r μ' → lx_C G M s H1 locs1 σ μ' → lx_W p l e s m args below meth c H1 locs1 σ Q (F0 m (pc + 3) ls (.long r :: rest))) : lx_W p l e s m args below meth c H locs σ Q (F0 m pc ls (As.reverse ++ .ref (M.1 0) :: rest)) :=
  va_calll (va_runV (As := As) (rest := rest) F hM (cwV n F.2.2.2.2 hT rfl rfl rfl hd hR) ⟨km_blind, lx_recvM C, fun U hU hW9 => ⟨rfl, lx_preM C U hU hW9⟩⟩ rfl hn hsz rfl (lv_room hW) hdg ⟨by have := (lx_room C).1; omega, by have := (lx_room C).2; omega⟩) C.1 (fun q _ h => C.2.1.2.2.2.2.2.2.2.2 q h) (fun q h => C.2.1.2.2.2.2.2.2.2.2 q h)
    (fun r u t H1 locs1 ht _ hp hE hz hk hS => kk r u H1 locs1 hp (lx_keyM C ht hE hz hk hS))
/-- a wrapper of the law's -/
theorem lx_cS {y : MethodName} {bytes : ByteArray} {maxL f1 l1 n index : Nat} {hh : List (Nat × Nat × Nat × Nat)} {ret : Option FieldType} {As : List Value} {P : Option Value → kx_S → Prop} (F : CallFix p m c cc nL s args kt_ RL) (C : lx_C G M s H locs σ μ) (hM : kx_MH l G y bytes maxL ret hh f1 l1 As σ P)
    (hT : GoodIn kt_ (va_wsS RL index y (Cond.codeWith y bytes maxL ret hh :: kt_))) (hd : y.cls ≠ "java/lang/invoke/MethodHandle" ∧ y.cls ≠ "java/lang/invoke/VarHandle" ∧ (parseMethodDescriptor y.desc).map (fun d => d.parameters.length) = some n) (hR : f1 + 1 ≤ room_1.frames ∧ 8 + (maxL + 11) + l1 ≤ room_1.locals) (hn : As.length = n) (hsz : ls.size = nL) (hW : (rest.map fun v => v.category).sum ≤ 8) (hdg : decode cc pc = .ok (.invokestatic index, 3))
    (kk : ∀ (v : Option Value) (u : kx_S) (H1 : Heap) (locs1 : List Loc), P v u → lx_C G M s H1 locs1 u μ → lx_W p l e s m args below meth c H1 locs1 u Q (F0 m (pc + 3) ls (v.toList ++ rest))) : lx_W p l e s m args below meth c H locs σ Q (F0 m pc ls (As.reverse ++ rest)) :=
  lx_callX C (vx_runSX (As := As) (rest := rest) F hM (vx_cwSW n F.2.2.2.2 hT rfl rfl rfl hd hR) ⟨kx_blind, fun U hU hW9 => ⟨rfl, lx_pre C U hU hW9⟩⟩ rfl hn hsz rfl (lv_room hW) hdg (lx_room C)) kk
end
theorem kt_cH {y : MethodName} {cc : ByteArray} {n : Nat} {ret : Option FieldType} {hh : List (Nat × Nat × Nat × Nat)} (h : Cond.codeWith y cc n ret hh ∈ kt_) : GoodIn kt_ (Cond.codeWith y cc n ret hh :: kt_) := fun w hw => (List.mem_cons.mp hw).elim (fun e => by rw [e]; exact ⟨h, kt_good h⟩) (fun hw => ⟨hw, kt_good hw⟩)
theorem kt_SH {own : String} {idx : Nat} {y : MethodName} {cc : ByteArray} {n : Nat} {ret : Option FieldType} {hh : List (Nat × Nat × Nat × Nat)} (h1 : Cond.methodLink own idx y ∈ kt_) (h2 : Cond.static y ∈ kt_) (h4 : Cond.initialized y.cls ∈ kt_) (h5 : Cond.codeWith y cc n ret hh ∈ kt_) : GoodIn kt_ (va_wsS own idx y (Cond.codeWith y cc n ret hh :: kt_)) := by
  intro w hw
  rcases List.mem_append.mp hw with hw | hw
  · simp only [List.mem_cons, List.not_mem_nil, or_false] at hw
    rcases hw with rfl | rfl | rfl
    · exact ⟨h1, kt_good h1⟩
    · exact ⟨h2, kt_good h2⟩
    · exact ⟨h4, kt_good h4⟩
  · exact kt_cH h5 w hw

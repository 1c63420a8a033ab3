/-! what every contract of the class takes of the tables and of the statics -/
abbrev pz_I : String := "java/lang/IllegalArgumentException"
def pz_strs : List (String × Nat × String) := [(RX11, 397, "no such reach"), (RX11, 153, "the tape has not so many bytes, or there is no such day"), (RX11, 399, "no such log"), (RX11, 224, "no such number of hours"), (RX11, 352, "no such order"), (RX11, 385, "there are no such waters"), (RX11, 387, "no such board"), (RX11, 389, "no such mark"), (RX11, 395, "nothing of that kind is counted"), (RX11, 401, "no such cell"), (RX11, 383, "a reach has no such what"), (RX11, 374, "a cell has no such what"), (RX11, 369, "a log has no such what")]
/-- the words as the class's reader has them in its pool, in the order of ks_len -/
def kx_wp : List (Nat × String) := [(99, "mark"), (101, "size"), (103, "stump"), (105, "hour"), (107, "day"), (109, "reach"), (111, "age"), (52, "toll"), (46, "bar"), (80, "and"), (82, "or"), (71, "not")]
abbrev pz_lsize : MethodName := ⟨"java/util/List", "size", "()I"⟩
abbrev pz_ladd : MethodName := ⟨"java/util/List", "add", "(Ljava/lang/Object;)Z"⟩
abbrev pz_lget : MethodName := ⟨"java/util/List", "get", "(I)Ljava/lang/Object;"⟩
abbrev pz_lrem : MethodName := ⟨"java/util/List", "remove", "(I)Ljava/lang/Object;"⟩
abbrev pz_ini (c : String) : MethodName := ⟨c, "<init>", "(Ljava/lang/String;)V"⟩
def pz_B (U : State) : Prop := (Cond.declares (pz_ini "java/lang/RuntimeException")).before #[] U = true ∧ (Cond.declares (pz_ini "java/lang/Exception")).before #[] U = true ∧ (Cond.declares (pz_ini "java/lang/Throwable")).before #[] U = true ∧ (Cond.castable pz_N pz_N).before #[] U = true ∧ (Cond.castable pz_I pz_I).before #[] U = true
/-- the classes whose objects lie in lists: by their tags -/
def kx_lc : List (Nat × String) := [(3, RX1), (4, RX2), (6, RX4), (8, RX6), (9, RX7), (10, RX8)]
def pz_w (mi : Nat) (U : State) : Prop := va_AO "java/lang/Object" U ∧ (∀ q ∈ kx_lc, va_Nw (.castable q.2 "java/lang/Object") U) ∧ va_Nw (.castable "[I" "java/lang/Cloneable") U ∧ va_Dc U ∧ va_Mi "[Ljava/lang/Object;" mi U
theorem pz_w.warm {mi : Nat} {s U : State} (hW : s.WarmedH U.vm) (h : pz_w mi s) : pz_w mi U := by
  obtain ⟨h1, h3, h4, h7, h8⟩ := h
  exact ⟨h1.moved hW.alike, fun q hq => (h3 q hq).warmC hW, h4.warmC hW, h7.moved hW.alike, h8.moved hW.alike⟩
theorem pz_w.same {mi : Nat} {u U : State} (hv : U.vm = u.vm) (h : pz_w mi u) : pz_w mi U := by
  obtain ⟨h1, h3, h4, h7, h8⟩ := h
  have al : u.vm.Alike U.vm := by rw [hv]; exact Vm.Alike.refl u.vm
  exact ⟨h1.moved al, fun q hq => (h3 q hq).same rfl hv.symm, h4.same rfl hv.symm, h7.moved al, h8.moved al⟩
theorem pz_tr {c : Cond} {u U : State} (hc : c.onTables = true) (h : c.before #[] (u.setVm U.vm) = true) : c.before #[] U = true := by
  have e := Cond.onTables_vm (A := #[]) (A' := #[]) (U := u) (U' := U) U.vm c hc
  have hU : U.setVm U.vm = U := rfl
  rw [hU] at e
  rw [← e]
  exact h
theorem pz_B.moved {u U : State} (hvm : u.vm.Alike U.vm) (h : pz_B u) : pz_B U := by
  obtain ⟨h1, h2, h3, h4, h5⟩ := h
  exact ⟨pz_tr rfl (by rw [Cond.declares_setVm hvm]; exact h1), pz_tr rfl (by rw [Cond.declares_setVm hvm]; exact h2), pz_tr rfl (by rw [Cond.declares_setVm hvm]; exact h3), pz_tr rfl (by rw [Cond.castable_setVm hvm]; exact h4), pz_tr rfl (by rw [Cond.castable_setVm hvm]; exact h5)⟩
/-- of the tables: the texts, the words, the lists' methods, the throws' constructors, arrays -/
def kx_V (G : kx_G) (U : State) : Prop := (∀ q ∈ pz_strs, ∃ a : Nat, vk_R q.1 q.2.1 q.2.2 a U) ∧ (∀ (i : Nat) (q : Nat × String), kx_wp[i]? = some q → vk_R RX5 q.1 q.2 (G.2.2.2.2.2.1 i) U) ∧ (va_Fw RJx4a65c pz_lsize yJx4a65c_size_8abf5 U ∧ va_Fw RJx4a65c pz_ladd yJx4a65c_add_9ea2d U ∧ va_Fw RJx4a65c pz_lget yJx4a65c_get_915e3 U ∧ va_Fw RJx4a65c pz_lrem yJx4a65c_remove_915e3 U) ∧ pz_B U ∧ pz_w (kx_mi G) U
theorem kx_V.warm {G : kx_G} {s U : State} (hW : s.WarmedH U.vm) (h : kx_V G s) : kx_V G U :=
  ⟨fun q hq => by obtain ⟨a, ha⟩ := h.1 q hq; exact ⟨a, vk_R.warm hW ha⟩, fun i q hq => vk_R.warm hW (h.2.1 i q hq), ⟨va_Fw.moved (by decide) hW.alike h.2.2.1.1, va_Fw.moved (by decide) hW.alike h.2.2.1.2.1, va_Fw.moved (by decide) hW.alike h.2.2.1.2.2.1, va_Fw.moved (by decide) hW.alike h.2.2.1.2.2.2⟩, h.2.2.2.1.moved hW.alike, h.2.2.2.2.warm hW⟩
theorem kx_V.same {G : kx_G} {u U : State} (hv : U.vm = u.vm) (h : kx_V G u) : kx_V G U := by
  have al : u.vm.Alike U.vm := by rw [hv]; exact Vm.Alike.refl u.vm
  exact ⟨fun q hq => by obtain ⟨a, ha⟩ := h.1 q hq; exact ⟨a, vk_R.same hv ha⟩, fun i q hq => vk_R.same hv (h.2.1 i q hq), ⟨va_Fw.moved (by decide) al h.2.2.1.1, va_Fw.moved (by decide) al h.2.2.1.2.1, va_Fw.moved (by decide) al h.2.2.1.2.2.1, va_Fw.moved (by decide) al h.2.2.1.2.2.2⟩, h.2.2.2.1.moved al, h.2.2.2.2.same hv⟩
/-- the statics: ArrayList's empty array lies at e0; Throwable's two -/
def pz_s (e0 : Nat) (A : Nat → Prop) (U : State) (H : Heap) : Prop := va_Z "java/util/ArrayList" "DEFAULTCAPACITY_EMPTY_ELEMENTDATA" "[Ljava/lang/Object;" (.ref e0) A U H ∧ va_T (.object "java/lang/Object") e0 0 (fun _ => .null) A U H ∧ vx_Zq Bundle.tN "UNASSIGNED_STACK" Bundle.steD A U H ∧ vx_Zq Bundle.tN "SUPPRESSED_SENTINEL" Bundle.listD A U H
theorem pz_s.moved {e0 : Nat} {A : Nat → Prop} {u U : State} {H : Heap} (hvm : u.vm.Alike U.vm) (h : pz_s e0 A u H) : pz_s e0 A U H := ⟨h.1.moved hvm, h.2.1.moved hvm, h.2.2.1.moved hvm, h.2.2.2.moved hvm⟩
theorem pz_s.kept {e0 : Nat} {A : Nat → Prop} {U : State} {H H1 : Heap} (h : pz_s e0 A U H) (hq : ∀ a : Nat, a < H.size → ¬ A a → H1[a]? = H[a]?) : pz_s e0 A U H1 := ⟨h.1.kept hq, h.2.1.kept hq, h.2.2.1.kept hq, h.2.2.2.kept hq⟩
/-- what doesn't change on the way -/
def kx_Z (G : kx_G) (U : State) (H : Heap) : Prop := va_K G.1 vwCl (kx_ty G) U ∧ (∀ q, H.size ≤ q → kx_A G q) ∧ pz_s (kx_z G) (kx_A G) U H ∧ kx_V G U ∧ ks_S G.2.2.2.2.2.1 G.2.2.2.2.2.2.1 (kx_A G) U H
/-- the class's world at a state -/
def kx_B (G : kx_G) (σ : kx_S) (U : State) : Prop := (xz σ = kx_z G ∧ xc σ ≤ kx_N) ∧ kx_Z G U U.heap ∧ kx_P G σ U.heap
/-- on the way: c0 cells had been made at the method's start -/
def kx_X (G : kx_G) (c0 : Nat) (s : State) (H : Heap) (locs : List Loc) (σ : kx_S) : Prop := c0 ≤ xc σ ∧ (xz σ = kx_z G ∧ xc σ ≤ kx_N) ∧ kx_Z G s s.heap ∧ va_S (kx_A G) s.heap H locs ∧ kx_P G σ H
theorem kx_blind {G : kx_G} {σ : kx_S} {av : List Value} : FrameBlind (va_Pc av (kx_B G σ)) :=
  fun a U g mk q => by
    obtain ⟨q0, q1, ⟨qK, qA, qZ, qV, qT⟩, qP⟩ := q
    exact ⟨q0, q1, ⟨va_K.moved (u := U) (U := U.calling g mk a) (Vm.Alike.refl U.vm) qK, qA, pz_s.moved (u := U) (U := U.calling g mk a) (Vm.Alike.refl U.vm) qZ, kx_V.same (u := U) (U := U.calling g mk a) rfl qV, ks_S.moved (u := U) (U := U.calling g mk a) (Vm.Alike.refl U.vm) qT⟩, qP⟩
/-- a contract's room, by how much has been made -/
abbrev kx_rm (fr lo c0 : Nat) : Room := { frames := fr, cells := kx_N - c0, slots := 600 * (kx_N - c0), locals := lo }
/-- what a method leaves -/
def kx_E (G : kx_G) (c0 : Nat) (u : kx_S) (st t : State) : Prop := c0 ≤ xc u ∧ (xz u = kx_z G ∧ xc u ≤ kx_N) ∧ kx_P G u t.heap ∧ va_F (kx_A G) st t ∧ kx_gr (xc u - c0) st.heap t.heap
def kx_Q (G : kx_G) (σ : kx_S) (P : Option Value → kx_S → Prop) : Array Value → State → Outcome → State → Prop := fun _ st oc t => ∃ (v : Option Value) (u : kx_S), oc = .returned v ∧ P v u ∧ kx_E G (xc σ) u st t
def kx_XC (G : kx_G) (σ : kx_S) (P : String → kx_S → Prop) : String → State → State → Prop := fun E st t => ∃ u : kx_S, P E u ∧ kx_E G (xc σ) u st t
abbrev kx_M (l : Launch) (G : kx_G) (y : MethodName) (cc : ByteArray) (n : Nat) (ret : Option FieldType) (fr lo : Nat) (av : List Value) (σ : kx_S) (P : Option Value → kx_S → Prop) : Prop :=
  Met l y (kt_w y cc n ret) (kx_rm fr lo (xc σ)) (va_Pc av (kx_B G σ)) (kx_Q G σ P) (kx_N - xc σ) (600 * (kx_N - xc σ)) (kx_A G)
abbrev kx_MX (l : Launch) (G : kx_G) (y : MethodName) (cc : ByteArray) (n : Nat) (ret : Option FieldType) (fr lo : Nat) (av : List Value) (σ : kx_S) (P : Option Value → kx_S → Prop) (PX : String → kx_S → Prop) : Prop :=
  vx_Met l y (kt_w y cc n ret) (kx_rm fr lo (xc σ)) (va_Pc av (kx_B G σ)) (kx_Q G σ P) (kx_XC G σ PX) (kx_N - xc σ) (600 * (kx_N - xc σ)) (kx_A G)
/-- the kinds of answers -/
abbrev kx_ri (P : Int32 → kx_S → Prop) : Option Value → kx_S → Prop := fun v u => ∃ r : Int32, v = some (.int r) ∧ P r u
abbrev kx_rl (P : Int64 → kx_S → Prop) : Option Value → kx_S → Prop := fun v u => ∃ r : Int64, v = some (.long r) ∧ P r u
abbrev kx_rv (P : kx_S → Prop) : Option Value → kx_S → Prop := fun v u => v = none ∧ P u
abbrev kx_ra (P : Nat → kx_S → Prop) : Option Value → kx_S → Prop := fun v u => ∃ r : Nat, v = some (.ref r) ∧ P r u
abbrev kx_rq (P : Option Nat → kx_S → Prop) : Option Value → kx_S → Prop := fun v u => ∃ r : Option Nat, v = some (va_rf r) ∧ P r u
section
variable {p : Program} {l : Launch} {e : Env} {fr lo c0 : Nat} {s : State} {m : MethodId} {args : Array Value} {below : List Frame} {meth : Method} {c : Code} {H : Heap} {locs : List Loc} {Q : State → Prop}
variable {cc : ByteArray} {pc nL : Nat} {ls : Array Slot} {rest : List Value} {G : kx_G} {σ : kx_S} {own : String}
abbrev kx_W (p : Program) (l : Launch) (e : Env) (fr lo c0 : Nat) (s : State) (m : MethodId) (args : Array Value) (below : List Frame) (meth : Method) (c : Code) (H : Heap) (locs : List Loc) (σ : kx_S) (Q : State → Prop) (g : JFrame) : Prop :=
  W p l e (kx_rm fr lo c0) s m args below meth c H locs (xc σ - c0) (600 * (xc σ - c0)) Q g
/-- a method's body: from its entry on -/
theorem kx_enter {y : MethodName} {n : Nat} {ret : Option FieldType} {av : List Value} {P : Option Value → kx_S → Prop} (hy : plainName y.cls = true) (hyc : y.cls = own) (hn : (lg_sl av).length ≤ n)
    (body : ∀ (p : Program) (e : Env) (s : State) (m : MethodId) (below : List Frame) (meth : Method) (c : Code) (ls : Array Slot), CallFix p m c cc n s av.toArray kt_ own → meth.sig.returnType = ret → meth.locks = false → kx_X G (xc σ) s s.heap [] σ → (meth.name = y.name) → lv_has ls n (lv_args 0 av) →
      kx_W p l e fr lo (xc σ) s m av.toArray below meth c s.heap [] σ (MQ below (kx_Q G σ P) av.toArray s (kx_N - xc σ) (600 * (kx_N - xc σ)) (kx_A G)) (F0 m 0 ls [])) : kx_M l G y cc n ret fr lo av σ P := by
  refine Met.ofW (cc := cc) (maxL := n) (ret := ret) hy rfl ?_
  intro p e s m args below meth c s₁ B hml hv
  obtain ⟨rfl, hN, hZ, hP⟩ := hv
  have hts := atoms_spec (ws := kt_w y cc n ret) B.pre
  have hown : s.vm.findClass y.cls = some m.cls := findClass_of_methodNamed B.named
  rw [hyc] at hown
  have hl := lv_entry av (n := n) hn
  rw [lg_entry_eq]
  have k := body p e s m below meth c _ ⟨B.exec, B.bytes, hml, hown, fun w hw => hts w (List.mem_cons_of_mem _ hw)⟩ B.returns B.notSynchronized ⟨Nat.le_refl _, hN, hZ, va_S.rf, hP⟩ (name_of_methodNamed B.named B.method).1 hl
  rw [kx_W, Nat.sub_self, Nat.mul_zero] at k
  exact k
theorem kx_enterX {y : MethodName} {n : Nat} {ret : Option FieldType} {av : List Value} {P : Option Value → kx_S → Prop} {PX : String → kx_S → Prop} (hy : plainName y.cls = true) (hyc : y.cls = own) (hn : (lg_sl av).length ≤ n)
    (body : ∀ (p : Program) (e : Env) (s : State) (m : MethodId) (below : List Frame) (meth : Method) (c : Code) (ls : Array Slot), CallFix p m c cc n s av.toArray kt_ own → meth.sig.returnType = ret → meth.locks = false → kx_X G (xc σ) s s.heap [] σ → (∀ x ∈ c.exceptionTable.toList, False) → lv_has ls n (lv_args 0 av) →
      kx_W p l e fr lo (xc σ) s m av.toArray below meth c s.heap [] σ (vx_MQ below (kx_Q G σ P) (kx_XC G σ PX) av.toArray s (kx_N - xc σ) (600 * (kx_N - xc σ)) (kx_A G)) (F0 m 0 ls [])) : kx_MX l G y cc n ret fr lo av σ P PX := by
  refine vx_ofW (cc := cc) (maxL := n) (ret := ret) hy rfl ?_
  intro p e s m args below meth c s₁ B hml hout hv
  obtain ⟨rfl, hN, hZ, hP⟩ := hv
  have hts := atoms_spec (ws := kt_w y cc n ret) B.pre
  have hown : s.vm.findClass y.cls = some m.cls := findClass_of_methodNamed B.named
  rw [hyc] at hown
  have hl := lv_entry av (n := n) hn
  rw [lg_entry_eq]
  have k := body p e s m below meth c _ ⟨B.exec, B.bytes, hml, hown, fun w hw => hts w (List.mem_cons_of_mem _ hw)⟩ B.returns B.notSynchronized ⟨Nat.le_refl _, hN, hZ, va_S.rf, hP⟩ hout hl
  rw [kx_W, Nat.sub_self, Nat.mul_zero] at k
  exact k
theorem kx_pre (C : kx_X G c0 s H locs σ) : ∀ U : State, U.heap = H → s.WarmedH U.vm → kx_B G σ U := fun U hU hW =>
  ⟨C.2.1, ⟨va_K.moved hW.alike C.2.2.1.1, by rw [hU]; exact fun q hq => C.2.2.1.2.1 q (Nat.le_trans C.2.2.2.1.1 hq), by rw [hU]; exact (C.2.2.1.2.2.1.kept C.2.2.2.1.2.1).moved hW.alike, C.2.2.1.2.2.2.1.warm hW, by rw [hU]; exact (C.2.2.1.2.2.2.2.kept C.2.2.2.1.2.1).moved hW.alike⟩, by rw [hU]; exact C.2.2.2.2⟩
/-- behind a call -/
theorem kx_call {mc ms : Nat} {P : Option Value → kx_S → Prop} {st0 : List Value} {a : Array Value} (C : kx_X G c0 s H locs σ)
    (hr : va_Run p l e (kx_rm fr lo c0) s m args below meth c H locs (xc σ - c0) (600 * (xc σ - c0)) mc ms (F0 m pc ls st0) rest (kx_Q G σ P a) (kx_A G))
    (kk : ∀ (v : Option Value) (u : kx_S) (H1 : Heap) (locs1 : List Loc), P v u → kx_X G c0 s H1 locs1 u → kx_W p l e fr lo c0 s m args below meth c H1 locs1 u Q (F0 m (pc + 3) ls (v.toList ++ rest))) : kx_W p l e fr lo c0 s m args below meth c H locs σ Q (F0 m pc ls st0) := by
  intro T hT X
  obtain ⟨v, st₀, t, T', L, h0, X', hL, e1, e2, ⟨v', u, hv, hp, h1, h2, h3, h4, h5⟩, st⟩ := hr T hT X
  cases hv
  have hs := kx_stand X
  rw [hT] at hs
  rw [h0] at h5
  have hg := kx_gr.trans (j := xc σ - c0) (H0 := s.heap) hs h5
  have hcc := C.1
  rw [show xc σ - c0 + (xc u - xc σ) = xc u - c0 by omega] at hg
  rw [← e1] at hg
  have hS := C.2.2.2.1
  have hF := h4
  rw [va_F, h0] at hF
  have hS1 : va_S (kx_A G) s.heap T'.heap (locs ++ L) := ⟨Nat.le_trans hS.1 (by rw [e1]; exact hF.1), fun q g1 g2 => by rw [e1, hF.2 q (Nat.lt_of_lt_of_le g1 hS.1) g2]; exact hS.2.1 q g1 g2, fun q hq => by
      rcases List.mem_append.mp hq with h | h
      · exact hS.2.2 q h
      · exact hL q h⟩
  obtain ⟨t2, a1, b1⟩ := kk v u T'.heap (locs ++ L) hp ⟨Nat.le_trans hcc h1, h2, C.2.2.1, hS1, by rw [e1]; exact h3⟩ T' rfl (kx_standT X' hg.1 hg.2)
  exact ⟨t2, st t2 a1, b1⟩
/-- the ends -/
theorem kx_end {P : Option Value → kx_S → Prop} {v : Option Value} {σ0 : kx_S} {t : State} (h : P v σ) (C : kx_X G (xc σ0) s H locs σ) (hg : kx_gr (xc σ - xc σ0) s.heap H) (ht : t.heap = H) (a : Array Value) : kx_Q G σ0 P a s (.returned v) t :=
  ⟨v, σ, rfl, h, C.1, C.2.1, by rw [ht]; exact C.2.2.2.2, C.2.2.2.1.F ht, by rw [ht]; exact hg⟩
end

/-! the reference: its state, its world -/
/-- ints by their field, int and boolean arrays by their field, longs by their field, the accounts -/
abbrev km_S : Type := (Nat → Int32) × (Nat → Nat → Int32) × (Nat → Int64) × (Nat → Int64)
def km_i (μ : km_S) (k : Nat) : Int32 := μ.1 k
def km_a (μ : km_S) (k i : Nat) : Int32 := μ.2.1 k i
def km_l (μ : km_S) (k : Nat) : Int64 := μ.2.2.1 k
def km_p (μ : km_S) (i : Nat) : Int64 := μ.2.2.2 i
def km_si (μ : km_S) (k : Nat) (v : Int32) : km_S := (upd μ.1 k v, μ.2)
def km_sa (μ : km_S) (k i : Nat) (v : Int32) : km_S := (μ.1, fun j => if j = k then upd (μ.2.1 k) i v else μ.2.1 j, μ.2.2)
def km_sl (μ : km_S) (k : Nat) (v : Int64) : km_S := (μ.1, μ.2.1, vp_updL μ.2.2.1 k v, μ.2.2.2)
def km_sp (μ : km_S) (i : Nat) (v : Int64) : km_S := (μ.1, μ.2.1, μ.2.2.1, vp_updL μ.2.2.2 i v)
/-- where it lies: addresses by field + 1, array classes, the classes' numbers, the words' strings and their bytes -/
abbrev km_G : Type := (Nat → Nat) × (Nat → ClassId) × va_G × (Nat → Nat) × (Nat → Nat)
def km_fs (G : km_G) (μ : km_S) : List Value := [.ref (G.1 1), .int (km_i μ 1), .int (km_i μ 2), .int (km_i μ 3), .int (km_i μ 4), .int (km_i μ 5), .int (km_i μ 6), .int (km_i μ 7), .int (km_i μ 8), .int (km_i μ 9), .int (km_i μ 10), .long (km_l μ 11), .long (km_l μ 12), .ref (G.1 14), .ref (G.1 15), .ref (G.1 16), .ref (G.1 17), .ref (G.1 18), .ref (G.1 19), .ref (G.1 20), .ref (G.1 21), .ref (G.1 22), .ref (G.1 23), .ref (G.1 24), .ref (G.1 25), .ref (G.1 26), .ref (G.1 27), .ref (G.1 28), .ref (G.1 29), .ref (G.1 30), .ref (G.1 31), .ref (G.1 32), .ref (G.1 33), .ref (G.1 34), .ref (G.1 35), .ref (G.1 36), .ref (G.1 37), .ref (G.1 38), .ref (G.1 39), .ref (G.1 40), .ref (G.1 41), .ref (G.1 42), .ref (G.1 43), .ref (G.1 44), .ref (G.1 45), .ref (G.1 46), .ref (G.1 47), .ref (G.1 48), .ref (G.1 49), .ref (G.1 50), .ref (G.1 51), .ref (G.1 52), .ref (G.1 53), .ref (G.1 54), .ref (G.1 55), .ref (G.1 56), .ref (G.1 57), .ref (G.1 58), .ref (G.1 59), .int (km_i μ 59), .int (km_i μ 60), .int (km_i μ 61), .int (km_i μ 62), .int (km_i μ 63), .int (km_i μ 64), .int (km_i μ 65), .int (km_i μ 66), .int (km_i μ 67), .int (km_i μ 68), .ref (G.1 70)]
def km_w (G : km_G) (μ : km_S) : va_W := [(G.1 0, .inr (13, km_fs G μ)), (G.1 1, .inl (G.2.1 1, 7, .inr (.inr (.inr (.inr (fun k => some (G.2.2.2.1 k))))))), (G.1 14, .inl (G.2.1 14, 10, .inl (km_a μ 13))), (G.1 15, .inl (G.2.1 15, 10, .inl (km_a μ 14))), (G.1 16, .inl (G.2.1 16, 10, .inl (km_a μ 15))), (G.1 17, .inl (G.2.1 17, 10, .inl (km_a μ 16))), (G.1 18, .inl (G.2.1 18, 10, .inl (km_a μ 17))), (G.1 19, .inl (G.2.1 19, 10, .inl (km_a μ 18))), (G.1 20, .inl (G.2.1 20, 10, .inl (km_a μ 19))), (G.1 21, .inl (G.2.1 21, 10, .inl (km_a μ 20))), (G.1 22, .inl (G.2.1 22, 10, .inl (km_a μ 21))), (G.1 23, .inl (G.2.1 23, 10, .inl (km_a μ 22))), (G.1 24, .inl (G.2.1 24, 10, .inl (km_a μ 23))), (G.1 25, .inl (G.2.1 25, 10, .inl (km_a μ 24))), (G.1 26, .inl (G.2.1 26, 10, .inl (km_a μ 25))), (G.1 27, .inl (G.2.1 27, 10, .inl (km_a μ 26))), (G.1 28, .inl (G.2.1 28, 10, .inl (km_a μ 27))), (G.1 29, .inl (G.2.1 29, 10, .inl (km_a μ 28))), (G.1 30, .inl (G.2.1 30, 10, .inl (km_a μ 29))), (G.1 31, .inl (G.2.1 31, 1000, .inl (km_a μ 30))), (G.1 32, .inl (G.2.1 32, 120, .inl (km_a μ 31))), (G.1 33, .inl (G.2.1 33, 2400, .inl (km_a μ 32))), (G.1 34, .inl (G.2.1 34, 120, .inl (km_a μ 33))), (G.1 35, .inl (G.2.1 35, 120, .inl (km_a μ 34))), (G.1 36, .inl (G.2.1 36, 400, .inl (km_a μ 35))), (G.1 37, .inl (G.2.1 37, 400, .inl (km_a μ 36))), (G.1 38, .inl (G.2.1 38, 400, .inl (km_a μ 37))), (G.1 39, .inl (G.2.1 39, 400, .inl (km_a μ 38))), (G.1 40, .inl (G.2.1 40, 400, .inl (km_a μ 39))), (G.1 41, .inl (G.2.1 41, 400, .inl (km_a μ 40))), (G.1 42, .inl (G.2.1 42, 400, .inl (km_a μ 41))), (G.1 43, .inl (G.2.1 43, 400, .inl (km_a μ 42))), (G.1 44, .inl (G.2.1 44, 3600, .inl (km_a μ 43))), (G.1 45, .inl (G.2.1 45, 6, .inl (km_a μ 44))), (G.1 46, .inl (G.2.1 46, 6, .inl (km_a μ 45))), (G.1 47, .inl (G.2.1 47, 6, .inl (km_a μ 46))), (G.1 48, .inl (G.2.1 48, 60, .inl (km_a μ 47))), (G.1 49, .inl (G.2.1 49, 60, .inl (km_a μ 48))), (G.1 50, .inl (G.2.1 50, 60, .inl (km_a μ 49))), (G.1 51, .inl (G.2.1 51, 60, .inl (km_a μ 50))), (G.1 52, .inl (G.2.1 52, 16, .inr (.inl (km_p μ)))), (G.1 53, .inl (G.2.1 53, 500, .inl (km_a μ 52))), (G.1 54, .inl (G.2.1 54, 6, .inl (km_a μ 53))), (G.1 55, .inl (G.2.1 55, 6, .inl (km_a μ 54))), (G.1 56, .inl (G.2.1 56, 78, .inl (km_a μ 55))), (G.1 57, .inl (G.2.1 57, 5400, .inl (km_a μ 56))), (G.1 58, .inl (G.2.1 58, 200, .inl (km_a μ 57))), (G.1 59, .inl (G.2.1 59, 72, .inl (km_a μ 58))), (G.1 70, .inl (G.2.1 70, 20, .inl (km_a μ 69)))]
def km_ty (G : km_G) : List (ClassId × FieldType) := [(G.2.1 1, .object "java/lang/String"), (G.2.1 14, .int), (G.2.1 15, .int), (G.2.1 16, .int), (G.2.1 17, .int), (G.2.1 18, .int), (G.2.1 19, .int), (G.2.1 20, .int), (G.2.1 21, .int), (G.2.1 22, .boolean), (G.2.1 23, .boolean), (G.2.1 24, .boolean), (G.2.1 25, .int), (G.2.1 26, .int), (G.2.1 27, .int), (G.2.1 28, .int), (G.2.1 29, .int), (G.2.1 30, .int), (G.2.1 31, .int), (G.2.1 32, .int), (G.2.1 33, .int), (G.2.1 34, .boolean), (G.2.1 35, .boolean), (G.2.1 36, .int), (G.2.1 37, .int), (G.2.1 38, .int), (G.2.1 39, .int), (G.2.1 40, .int), (G.2.1 41, .int), (G.2.1 42, .int), (G.2.1 43, .int), (G.2.1 44, .int), (G.2.1 45, .int), (G.2.1 46, .int), (G.2.1 47, .int), (G.2.1 48, .int), (G.2.1 49, .int), (G.2.1 50, .int), (G.2.1 51, .int), (G.2.1 52, .long), (G.2.1 53, .int), (G.2.1 54, .int), (G.2.1 55, .int), (G.2.1 56, .int), (G.2.1 57, .int), (G.2.1 58, .int), (G.2.1 59, .boolean), (G.2.1 70, .int)]
def km_A (G : km_G) : Nat → Prop := fun q => q ∈ ([0, 1, 14, 15, 16, 17, 18, 19, 20, 21, 22, 23, 24, 25, 26, 27, 28, 29, 30, 31, 32, 33, 34, 35, 36, 37, 38, 39, 40, 41, 42, 43, 44, 45, 46, 47, 48, 49, 50, 51, 52, 53, 54, 55, 56, 57, 58, 59, 70] : List Nat).map G.1
/-! the words of the law's texts: strings that are there at the start -/
def ks_len : List Nat := [4, 4, 5, 4, 3, 5, 3, 4, 3, 3, 2, 3]
def ks_byt : List (List Int32) := [[109, 97, 114, 107], [115, 105, 122, 101], [115, 116, 117, 109, 112], [104, 111, 117, 114], [100, 97, 121], [114, 101, 97, 99, 104], [97, 103, 101], [116, 111, 108, 108], [98, 97, 114], [97, 110, 100], [111, 114], [110, 111, 116]]
def ks_S (adK adV : Nat → Nat) (A : Nat → Prop) (U : State) (H : Heap) : Prop :=
  (∀ i : Nat, i < 12 → va_O "java/lang/String" (adK i) A U H ∧ va_OF "java/lang/String" "coder" "B" (.int 0) (adK i) A U H ∧ va_OF "java/lang/String" "value" "[B" (.ref (adV i)) (adK i) A U H ∧ va_T .byte (adV i) (ks_len.getD i 0) (fun j => .int ((ks_byt.getD i []).getD j 0)) A U H) ∧ va_Z "java/lang/String" "COMPACT_STRINGS" "Z" (.int 1) A U H ∧ va_Zq "jdk/internal/util/Preconditions" "SIOOBE_FORMATTER" "Ljava/util/function/BiFunction;" A U H
theorem ks_S.moved {adK adV : Nat → Nat} {A : Nat → Prop} {u U : State} {H : Heap} (hvm : u.vm.Alike U.vm) (h : ks_S adK adV A u H) : ks_S adK adV A U H :=
  ⟨fun i hi => ⟨va_O.moved hvm (h.1 i hi).1, va_OF.moved hvm (h.1 i hi).2.1, va_OF.moved hvm (h.1 i hi).2.2.1, va_T.moved hvm (h.1 i hi).2.2.2⟩, va_Z.moved hvm h.2.1, va_Zq.moved hvm h.2.2⟩
theorem ks_S.kept {adK adV : Nat → Nat} {A : Nat → Prop} {U : State} {H H1 : Heap} (h : ks_S adK adV A U H) (hq : ∀ a : Nat, a < H.size → ¬ A a → H1[a]? = H[a]?) : ks_S adK adV A U H1 :=
  ⟨fun i hi => ⟨(h.1 i hi).1.kept hq, (h.1 i hi).2.1.kept hq, (h.1 i hi).2.2.1.kept hq, (h.1 i hi).2.2.2.kept hq⟩, va_Z.kept h.2.1 hq, va_Zq.kept h.2.2 hq⟩
theorem ks_S.narrow {adK adV : Nat → Nat} {A B : Nat → Prop} {U : State} {H : Heap} (h : ks_S adK adV A U H) (hAB : ∀ q, B q → A q) : ks_S adK adV B U H :=
  ⟨fun i hi => ⟨(h.1 i hi).1.narrow hAB, (h.1 i hi).2.1.narrow hAB, (h.1 i hi).2.2.1.narrow hAB, (h.1 i hi).2.2.2.narrow hAB⟩, va_Z.narrow h.2.1 hAB, va_Zq.narrow h.2.2 hAB⟩
/-- the reference's own strings, by their places in its pool -/
def km_R (adK : Nat → Nat) (U : State) : Prop := vk_R RX12 247 "toll" (adK 7) U ∧ vk_R RX12 253 "bar" (adK 8) U ∧ vk_R RX12 268 "and" (adK 9) U ∧ vk_R RX12 270 "or" (adK 10) U ∧ vk_R RX12 275 "not" (adK 11) U
theorem km_R.warm {adK : Nat → Nat} {s U : State} (hW : s.WarmedH U.vm) (h : km_R adK s) : km_R adK U := ⟨vk_R.warm hW h.1, vk_R.warm hW h.2.1, vk_R.warm hW h.2.2.1, vk_R.warm hW h.2.2.2.1, vk_R.warm hW h.2.2.2.2⟩
theorem km_R.same {adK : Nat → Nat} {u U : State} (hv : U.vm = u.vm) (h : km_R adK u) : km_R adK U := ⟨vk_R.same hv h.1, vk_R.same hv h.2.1, vk_R.same hv h.2.2.1, vk_R.same hv h.2.2.2.1, vk_R.same hv h.2.2.2.2⟩
/-- the reference's world at a state -/
def km_B (G : km_G) (μ : km_S) (U : State) : Prop := va_K G.2.2.1 vwCl (km_ty G) U ∧ va_P G.2.2.1 vwCl (km_w G μ) U.heap ∧ va_D (km_A G) (km_w G μ) ∧ ks_S G.2.2.2.1 G.2.2.2.2 (km_A G) U U.heap ∧ km_R G.2.2.2.1 U
/-- on the way: the heap is H -/
def km_X (G : km_G) (s : State) (H : Heap) (locs : List Loc) (μ : km_S) : Prop := va_K G.2.2.1 vwCl (km_ty G) s ∧ va_P G.2.2.1 vwCl (km_w G μ) H ∧ va_D (km_A G) (km_w G μ) ∧ va_S (km_A G) s.heap H locs ∧ ks_S G.2.2.2.1 G.2.2.2.2 (km_A G) s s.heap ∧ km_R G.2.2.2.1 s
theorem km_blind {G : km_G} {μ : km_S} {av : List Value} : FrameBlind (va_Pc av (km_B G μ)) :=
  fun a U g mk q => by obtain ⟨q0, qK, qP, qD, qT, qR⟩ := q; exact ⟨q0, va_K.moved (u := U) (U := U.calling g mk a) (Vm.Alike.refl U.vm) qK, qP, qD, ks_S.moved (u := U) (U := U.calling g mk a) (Vm.Alike.refl U.vm) qT, km_R.same (u := U) (U := U.calling g mk a) rfl qR⟩
/-- a world's addresses: any other contents lie at the same -/
theorem km_D {G : km_G} {μ μ' : km_S} (h : va_D (km_A G) (km_w G μ)) : va_D (km_A G) (km_w G μ') := by
  have e : ∀ (i : Nat) (q : Nat × va_E), (km_w G μ')[i]? = some q → ∃ q0 : Nat × va_E, (km_w G μ)[i]? = some q0 ∧ q0.1 = q.1 := by
    intro i q hq
    have h1 : ((km_w G μ').map Prod.fst)[i]? = some q.1 := by rw [List.getElem?_map, hq]; rfl
    have h2 : (km_w G μ').map Prod.fst = (km_w G μ).map Prod.fst := rfl
    rw [h2, List.getElem?_map] at h1
    cases hz : (km_w G μ)[i]? with
    | none => rw [hz] at h1; cases h1
    | some q0 => rw [hz] at h1; exact ⟨q0, rfl, Option.some.inj h1⟩
  refine ⟨fun i j x y hi hj hxy => ?_, fun k q hk => ?_⟩
  · obtain ⟨x0, a1, a2⟩ := e i x hi
    obtain ⟨y0, b1, b2⟩ := e j y hj
    exact h.1 i j x0 y0 a1 b1 (a2.trans (hxy.trans b2.symm))
  · obtain ⟨q0, a1, a2⟩ := e k q hk
    rw [← a2]
    exact h.2 k q0 a1
/-- a contract's end: what is said of the answer and of the state -/
abbrev km_E (G : km_G) : km_S → State → Prop := fun u t => va_P G.2.2.1 vwCl (km_w G u) t.heap
abbrev km_Qi (G : km_G) (Q : Int32 → km_S → Prop) : Array Value → State → Outcome → State → Prop := va_Qi (S := km_S) Q (km_E G) (km_A G)
abbrev km_Ql (G : km_G) (Q : Int64 → km_S → Prop) : Array Value → State → Outcome → State → Prop := va_Ql (S := km_S) Q (km_E G) (km_A G)
abbrev km_Qv (G : km_G) (Q : km_S → Prop) : Array Value → State → Outcome → State → Prop := va_Qv (S := km_S) Q (km_E G) (km_A G)
abbrev km_M (l : Launch) (G : km_G) (y : MethodName) (cc : ByteArray) (n : Nat) (ret : Option FieldType) (fr lo : Nat) (av : List Value) (μ : km_S) (Qc : Array Value → State → Outcome → State → Prop) : Prop :=
  Met l y (kt_w y cc n ret) { frames := fr, cells := 0, slots := 0, locals := lo } (va_Pc av (km_B G μ)) Qc 0 0 (km_A G)
section
variable {p : Program} {l : Launch} {e : Env} {R : Room} {s : State} {m : MethodId} {args : Array Value} {below : List Frame} {meth : Method} {c : Code} {H : Heap} {locs : List Loc} {Q : State → Prop}
variable {cc : ByteArray} {pc nL : Nat} {ls : Array Slot} {rest : List Value} {G : km_G} {μ : km_S}
/-- a method's body: from its entry on -/
theorem km_enter {y : MethodName} {n : Nat} {ret : Option FieldType} {fr lo : Nat} {av : List Value} {Qc : Array Value → State → Outcome → State → Prop} (hy : plainName y.cls = true) (hyc : y.cls = RX12) (hn : (lg_sl av).length ≤ n)
    (body : ∀ (p : Program) (e : Env) (s : State) (m : MethodId) (below : List Frame) (meth : Method) (c : Code) (ls : Array Slot), CallFix p m c cc n s av.toArray kt_ RX12 → meth.sig.returnType = ret → meth.locks = false → km_X G s s.heap [] μ → lv_has ls n (lv_args 0 av) →
      W p l e { frames := fr, cells := 0, slots := 0, locals := lo } s m av.toArray below meth c s.heap [] 0 0 (MQ below Qc av.toArray s 0 0 (km_A G)) (F0 m 0 ls [])) : km_M l G y cc n ret fr lo av μ Qc := by
  refine Met.ofW (cc := cc) (maxL := n) (ret := ret) hy rfl ?_
  intro p e s m args below meth c s₁ B hml hv
  obtain ⟨rfl, hK, hP, hD, hT, hR⟩ := hv
  have hts := atoms_spec (ws := kt_w y cc n ret) B.pre
  have hown : s.vm.findClass y.cls = some m.cls := findClass_of_methodNamed B.named
  rw [hyc] at hown
  have hl := lv_entry av (n := n) hn
  rw [lg_entry_eq]
  exact body p e s m below meth c _ ⟨B.exec, B.bytes, hml, hown, fun w hw => hts w (List.mem_cons_of_mem _ hw)⟩ B.returns B.notSynchronized ⟨hK, hP, hD, va_S.rf, hT, hR⟩ hl
theorem km_pre (C : km_X G s H locs μ) : ∀ U : State, U.heap = H → s.WarmedH U.vm → km_B G μ U := fun U hU hW =>
  ⟨va_K.moved hW.alike C.1, by rw [hU]; exact C.2.1, C.2.2.1, by rw [hU]; exact (C.2.2.2.2.1.kept C.2.2.2.1.2.1).moved hW.alike, C.2.2.2.2.2.warm hW⟩
theorem km_recv (C : km_X G s H locs μ) : ∃ cell : Cell, H[G.1 0]? = some cell ∧ cell.vm.isStatics = false ∧ s.vm.findClass RX12 = some cell.cls := va_recv C.1 C.2.1 (ci := 13) (q0 := 0) rfl rfl
theorem km_next (C : km_X G s H locs μ) {μ' : km_S} {t : State} {H1 : Heap} {locs1 : List Loc} (ht : t.heap = H1) (hE : km_E G μ' t) (hS : va_S (km_A G) s.heap H1 locs1) : km_X G s H1 locs1 μ' := ⟨C.1, by rw [← ht]; exact hE, km_D C.2.2.1, hS, C.2.2.2.2⟩
/-- calls of the reference's own methods -/
theorem km_cVi {y : MethodName} {bytes : ByteArray} {maxL fr lo n index : Nat} {ret : Option FieldType} {As : List Value} {P : Int32 → km_S → Prop} (F : CallFix p m c cc nL s args kt_ RX12) (C : km_X G s H locs μ) (hM : km_M l G y bytes maxL ret fr lo (.ref (G.1 0) :: As) μ (km_Qi G P))
    (hT : GoodIn kt_ (wsV RX12 index RX12 y (kt_w y bytes maxL ret))) (hd : y.cls = RX12 ∧ y.cls ≠ "java/lang/invoke/MethodHandle" ∧ y.cls ≠ "java/lang/invoke/VarHandle" ∧ (parseMethodDescriptor y.desc).map (fun d => d.parameters.length) = some n) (hR : fr + 1 ≤ R.frames ∧ 8 + (maxL + 11) + lo ≤ R.locals) (hn : As.length = n) (hsz : ls.size = nL) (hW : (rest.map fun v => v.category).sum ≤ 8) (hdg : decode cc pc = .ok (.invokevirtual index, 3))
    (kk : ∀ (r : Int32) (μ' : km_S) (H1 : Heap) (locs1 : List Loc), P r μ' → km_X G s H1 locs1 μ' → W p l e R s m args below meth c H1 locs1 0 0 Q (F0 m (pc + 3) ls (.int r :: rest))) : W p l e R s m args below meth c H locs 0 0 Q (F0 m pc ls (As.reverse ++ .ref (G.1 0) :: rest)) :=
  va_calli (va_runV (As := As) (rest := rest) F hM (cwV n F.2.2.2.2 hT rfl rfl rfl hd hR) ⟨km_blind, km_recv C, fun U hU hW9 => ⟨rfl, km_pre C U hU hW9⟩⟩ rfl hn hsz rfl (lv_room hW) hdg ⟨Nat.zero_le _, Nat.zero_le _⟩) C.2.2.2.1 (fun _ _ h => h) (fun _ h => h)
    (fun r u t H1 locs1 ht _ hp hE _ _ hS => kk r u H1 locs1 hp (km_next C ht hE hS))
theorem km_cVl {y : MethodName} {bytes : ByteArray} {maxL fr lo n index : Nat} {ret : Option FieldType} {As : List Value} {P : Int64 → km_S → Prop} (F : CallFix p m c cc nL s args kt_ RX12) (C : km_X G s H locs μ) (hM : km_M l G y bytes maxL ret fr lo (.ref (G.1 0) :: As) μ (km_Ql G P))
    (hT : GoodIn kt_ (wsV RX12 index RX12 y (kt_w y bytes maxL ret))) (hd : y.cls = RX12 ∧ y.cls ≠ "java/lang/invoke/MethodHandle" ∧ y.cls ≠ "java/lang/invoke/VarHandle" ∧ (parseMethodDescriptor y.desc).map (fun d => d.parameters.length) = some n) (hR : fr + 1 ≤ R.frames ∧ 8 + (maxL + 11) + lo ≤ R.locals) (hn : As.length = n) (hsz : ls.size = nL) (hW : (rest.map fun v => v.category).sum ≤ 8) (hdg : decode cc pc = .ok (.invokevirtual index, 3))
    (kk : ∀ (r : Int64) (μ' : km_S) (H1 : Heap) (locs1 : List Loc), P r μ' → km_X G s H1 locs1 μ' → W p l e R s m args below meth c H1 locs1 0 0 Q (F0 m (pc + 3) ls (.long r :: rest))) : W p l e R s m args below meth c H locs 0 0 Q (F0 m pc ls (As.reverse ++ .ref (G.1 0) :: rest)) :=
  va_calll (va_runV (As := As) (rest := rest) F hM (cwV n F.2.2.2.2 hT rfl rfl rfl hd hR) ⟨km_blind, km_recv C, fun U hU hW9 => ⟨rfl, km_pre C U hU hW9⟩⟩ rfl hn hsz rfl (lv_room hW) hdg ⟨Nat.zero_le _, Nat.zero_le _⟩) C.2.2.2.1 (fun _ _ h => h) (fun _ h => h)
    (fun r u t H1 locs1 ht _ hp hE _ _ hS => kk r u H1 locs1 hp (km_next C ht hE hS))
theorem km_cVv {y : MethodName} {bytes : ByteArray} {maxL fr lo n index : Nat} {ret : Option FieldType} {As : List Value} {P : km_S → Prop} (F : CallFix p m c cc nL s args kt_ RX12) (C : km_X G s H locs μ) (hM : km_M l G y bytes maxL ret fr lo (.ref (G.1 0) :: As) μ (km_Qv G P))
    (hT : GoodIn kt_ (wsV RX12 index RX12 y (kt_w y bytes maxL ret))) (hd : y.cls = RX12 ∧ y.cls ≠ "java/lang/invoke/MethodHandle" ∧ y.cls ≠ "java/lang/invoke/VarHandle" ∧ (parseMethodDescriptor y.desc).map (fun d => d.parameters.length) = some n) (hR : fr + 1 ≤ R.frames ∧ 8 + (maxL + 11) + lo ≤ R.locals) (hn : As.length = n) (hsz : ls.size = nL) (hW : (rest.map fun v => v.category).sum ≤ 8) (hdg : decode cc pc = .ok (.invokevirtual index, 3))
    (kk : ∀ (μ' : km_S) (H1 : Heap) (locs1 : List Loc), P μ' → km_X G s H1 locs1 μ' → W p l e R s m args below meth c H1 locs1 0 0 Q (F0 m (pc + 3) ls rest)) : W p l e R s m args below meth c H locs 0 0 Q (F0 m pc ls (As.reverse ++ .ref (G.1 0) :: rest)) :=
  va_callv (va_runV (As := As) (rest := rest) F hM (cwV n F.2.2.2.2 hT rfl rfl rfl hd hR) ⟨km_blind, km_recv C, fun U hU hW9 => ⟨rfl, km_pre C U hU hW9⟩⟩ rfl hn hsz rfl (lv_room hW) hdg ⟨Nat.zero_le _, Nat.zero_le _⟩) C.2.2.2.1 (fun _ _ h => h) (fun _ h => h)
    (fun u t H1 locs1 ht _ hp hE _ _ hS => kk u H1 locs1 hp (km_next C ht hE hS))
theorem km_cSi {y : MethodName} {bytes : ByteArray} {maxL fr lo n index : Nat} {ret : Option FieldType} {As : List Value} {P : Int32 → km_S → Prop} (F : CallFix p m c cc nL s args kt_ RX12) (C : km_X G s H locs μ) (hM : km_M l G y bytes maxL ret fr lo As μ (km_Qi G P))
    (hT : GoodIn kt_ (va_wsS RX12 index y (kt_w y bytes maxL ret))) (hd : y.cls ≠ "java/lang/invoke/MethodHandle" ∧ y.cls ≠ "java/lang/invoke/VarHandle" ∧ (parseMethodDescriptor y.desc).map (fun d => d.parameters.length) = some n) (hR : fr + 1 ≤ R.frames ∧ 8 + (maxL + 11) + lo ≤ R.locals) (hn : As.length = n) (hsz : ls.size = nL) (hW : (rest.map fun v => v.category).sum ≤ 8) (hdg : decode cc pc = .ok (.invokestatic index, 3))
    (kk : ∀ (r : Int32) (μ' : km_S) (H1 : Heap) (locs1 : List Loc), P r μ' → km_X G s H1 locs1 μ' → W p l e R s m args below meth c H1 locs1 0 0 Q (F0 m (pc + 3) ls (.int r :: rest))) : W p l e R s m args below meth c H locs 0 0 Q (F0 m pc ls (As.reverse ++ rest)) :=
  va_calli (va_runS (As := As) (rest := rest) F hM (va_cwS n F.2.2.2.2 hT rfl rfl rfl hd hR) ⟨km_blind, fun U hU hW9 => ⟨rfl, km_pre C U hU hW9⟩⟩ rfl hn hsz rfl (lv_room hW) hdg ⟨Nat.zero_le _, Nat.zero_le _⟩) C.2.2.2.1 (fun _ _ h => h) (fun _ h => h)
    (fun r u t H1 locs1 ht _ hp hE _ _ hS => kk r u H1 locs1 hp (km_next C ht hE hS))
/-- the ends -/
theorem km_iret {v : Int32} {P : Int32 → km_S → Prop} (F : CallFix p m c cc nL s args kt_ RX12) (C : km_X G s H locs μ) (hr : meth.sig.returnType = some .int) (hlocks : meth.locks = false) (h : P v μ) (hdg : decode cc pc = .ok (.ireturn, 1)) : W p l e R s m args below meth c H locs 0 0 (MQ below (km_Qi G P) args s 0 0 (km_A G)) (F0 m pc ls [.int v]) :=
  W.iret (v := v) F.1 F.2.1 hr (fun t ht _ => ⟨⟨v, μ, rfl, h, by rw [km_E, ht]; exact C.2.1⟩, C.2.2.2.1.F ht⟩) C.2.2.2.1.2.2 hdg hlocks
theorem km_zret {v : Int32} {P : Int32 → km_S → Prop} (F : CallFix p m c cc nL s args kt_ RX12) (C : km_X G s H locs μ) (hr : meth.sig.returnType = some .boolean) (hlocks : meth.locks = false) (hz : narrow .boolean (.int v) = .int v) (h : P v μ) (hdg : decode cc pc = .ok (.ireturn, 1)) : W p l e R s m args below meth c H locs 0 0 (MQ below (km_Qi G P) args s 0 0 (km_A G)) (F0 m pc ls [.int v]) :=
  W.zret (v := v) F.1 F.2.1 hr hz (fun t ht _ => ⟨⟨v, μ, rfl, h, by rw [km_E, ht]; exact C.2.1⟩, C.2.2.2.1.F ht⟩) C.2.2.2.1.2.2 hdg hlocks
theorem km_lret {v : Int64} {P : Int64 → km_S → Prop} (F : CallFix p m c cc nL s args kt_ RX12) (C : km_X G s H locs μ) (hr : meth.sig.returnType = some .long) (hlocks : meth.locks = false) (h : P v μ) (hdg : decode cc pc = .ok (.lreturn, 1)) : W p l e R s m args below meth c H locs 0 0 (MQ below (km_Ql G P) args s 0 0 (km_A G)) (F0 m pc ls [.long v]) :=
  W.lret (v := v) F.1 F.2.1 hr (fun t ht _ => ⟨⟨v, μ, rfl, h, by rw [km_E, ht]; exact C.2.1⟩, C.2.2.2.1.F ht⟩) C.2.2.2.1.2.2 hdg hlocks
theorem km_vret {P : km_S → Prop} (F : CallFix p m c cc nL s args kt_ RX12) (C : km_X G s H locs μ) (hr : meth.sig.returnType = none) (hlocks : meth.locks = false) (h : P μ) (hdg : decode cc pc = .ok (.return_, 1)) : W p l e R s m args below meth c H locs 0 0 (MQ below (km_Qv G P) args s 0 0 (km_A G)) (F0 m pc ls []) :=
  W.vret F.1 F.2.1 hr (fun t ht _ => ⟨⟨μ, rfl, h, by rw [km_E, ht]; exact C.2.1⟩, C.2.2.2.1.F ht⟩) C.2.2.2.1.2.2 hdg hlocks
end


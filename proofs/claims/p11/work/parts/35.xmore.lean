theorem ux_1 : Cond.native arraycopyName ∈ kt_ := kt_m (kt_t2 _ (List.mem_of_getElem? (i := 144) (by decide +kernel))) (by decide +kernel)
theorem ux_2 : Cond.static arraycopyName ∈ kt_ := kt_m (kt_t2 _ (List.mem_of_getElem? (i := 143) (by decide +kernel))) (by decide +kernel)
theorem ux_3 : Cond.initialized "java/lang/System" ∈ kt_ := kt_m (kt_t1 _ (List.mem_of_getElem? (i := 17) (by decide +kernel))) (by decide +kernel)
theorem ux_4 : Cond.methodLink RJ7 316 ⟨"[I", "clone", "()Ljava/lang/Object;"⟩ ∈ kt_ := kt_m (kt_t4 _ (List.mem_of_getElem? (i := 62) (by decide +kernel))) (by decide +kernel)
theorem ux_5 : Cond.sameMethod "[I" "java/lang/Object" "clone" "()Ljava/lang/Object;" ∈ kt_ := kt_m (kt_t4 _ (List.mem_of_getElem? (i := 63) (by decide +kernel))) (by decide +kernel)
theorem ux_6 : Cond.native ⟨"java/lang/Object", "clone", "()Ljava/lang/Object;"⟩ ∈ kt_ := kt_m (kt_t4 _ (List.mem_of_getElem? (i := 64) (by decide +kernel))) (by decide +kernel)
theorem ux_7 : Cond.instanceMethod ⟨"java/lang/Object", "clone", "()Ljava/lang/Object;"⟩ ∈ kt_ := kt_m (kt_t4 _ (List.mem_of_getElem? (i := 65) (by decide +kernel))) (by decide +kernel)
theorem ux_8 : Cond.selects "[I" ⟨"[I", "clone", "()Ljava/lang/Object;"⟩ ⟨"java/lang/Object", "clone", "()Ljava/lang/Object;"⟩ ∈ kt_ := kt_m (kt_t4 _ (List.mem_of_getElem? (i := 66) (by decide +kernel))) (by decide +kernel)
theorem ux_9 : Cond.methodLink RJ7 86 ⟨"java/lang/Object", "getClass", "()Ljava/lang/Class;"⟩ ∈ kt_ := kt_m (kt_t2 _ (List.mem_of_getElem? (i := 113) (by decide +kernel))) (by decide +kernel)
theorem ux_10 : Cond.selects "[Ljava/lang/Object;" ⟨"java/lang/Object", "getClass", "()Ljava/lang/Class;"⟩ ⟨"java/lang/Object", "getClass", "()Ljava/lang/Class;"⟩ ∈ kt_ := kt_m (kt_t7 _ (List.mem_of_getElem? (i := 150) (by decide +kernel))) (by decide +kernel)
theorem ux_11 : Cond.instanceMethod ⟨"java/lang/Object", "getClass", "()Ljava/lang/Class;"⟩ ∈ kt_ := kt_m (kt_t2 _ (List.mem_of_getElem? (i := 114) (by decide +kernel))) (by decide +kernel)
theorem ux_12 : Cond.native ⟨"java/lang/Object", "getClass", "()Ljava/lang/Class;"⟩ ∈ kt_ := kt_m (kt_t2 _ (List.mem_of_getElem? (i := 132) (by decide +kernel))) (by decide +kernel)
theorem ux_13 : Cond.static ⟨"java/lang/Math", "max", "(II)I"⟩ ∈ kt_ := kt_m (kt_t2 _ (List.mem_of_getElem? (i := 104) (by decide +kernel))) (by decide +kernel)
theorem ux_14 : Cond.initialized "java/lang/Math" ∈ kt_ := kt_m (kt_t1 _ (List.mem_of_getElem? (i := 15) (by decide +kernel))) (by decide +kernel)
theorem ux_15 : Cond.code ⟨"java/lang/Math", "max", "(II)I"⟩ cJ9_max_7cf53 2 (some .int) ∈ kt_ := kt_m (kt_t2 _ (List.mem_of_getElem? (i := 105) (by decide +kernel))) (by decide +kernel)
theorem ux_16 : Cond.static ⟨"java/lang/Math", "min", "(II)I"⟩ ∈ kt_ := kt_m (kt_t2 _ (List.mem_of_getElem? (i := 140) (by decide +kernel))) (by decide +kernel)
theorem ux_17 : Cond.code ⟨"java/lang/Math", "min", "(II)I"⟩ cJ9_min_7cf53 2 (some .int) ∈ kt_ := kt_m (kt_t2 _ (List.mem_of_getElem? (i := 141) (by decide +kernel))) (by decide +kernel)
theorem ux_18 : Cond.instanceMethod objectInit ∈ kt_ := kt_m (kt_t1 _ (List.mem_of_getElem? (i := 37) (by decide +kernel))) (by decide +kernel)
theorem ux_19 : Cond.code objectInit ⟨#[0xb1]⟩ 1 none ∈ kt_ := kt_m (kt_t1 _ (List.mem_of_getElem? (i := 38) (by decide +kernel))) (by decide +kernel)
theorem ux_20 : Cond.fieldLink RJx4a65c 39 RJx4a65c "DEFAULTCAPACITY_EMPTY_ELEMENTDATA" "[Ljava/lang/Object;" ∈ kt_ := kt_m (kt_t1 _ (List.mem_of_getElem? (i := 51) (by decide +kernel))) (by decide +kernel)
/-! arraycopy, clone, class objects, Math, String, Object() -/
section
variable {p : Program} {l : Launch} {e : Env} {fr lo c0 : Nat} {s : State} {m : MethodId} {args : Array Value} {below : List Frame} {meth : Method} {c : Code} {H : Heap} {locs : List Loc} {Q : State → Prop}
variable {cc : ByteArray} {pc nL index : Nat} {ls : Array Slot} {rest : List Value} {G : kx_G} {σ : kx_S} {own : String}
theorem kx_nat : nativeFrameWords "java/lang/System" "arraycopy" 5 + 11 ≤ 100 := by decide +kernel
theorem kx_copyq {a0 a : Nat} {sp dp n : Int32} (F : CallFix p m c cc nL s args kt_ own) (C : kx_X G c0 s H locs σ) (hw : Cond.methodLink own index arraycopyName ∈ kt_) (h0 : xt σ a0 = 22) (ha : xt σ a = 22) (h1 : ¬ sp < 0) (h2 : ¬ dp < 0) (h3 : ¬ n < 0) (h4 : sp.toNatClampNeg + n.toNatClampNeg ≤ xn σ a0) (h5 : dp.toNatClampNeg + n.toNatClampNeg ≤ xn σ a) (hel : ∀ i : Nat, i < n.toNatClampNeg → ∀ y : Nat, xar σ a0 (sp.toNatClampNeg + i) = some y → kx_el (xt σ y))
    (hf : 1 ≤ fr) (hlo : (rest.map fun v => v.category).sum + 100 ≤ lo) (hsz : ls.size = nL) (hdg : decode cc pc = .ok (.invokestatic index, 3))
    (kk : ∀ (H1 : Heap) (locs1 : List Loc), kx_X G c0 s H1 locs1 (xsAR σ a (va_cpy (xar σ a0) (xar σ a) sp.toNatClampNeg dp.toNatClampNeg n.toNatClampNeg)) → kx_W p l e fr lo c0 s m args below meth c H1 locs1 (xsAR σ a (va_cpy (xar σ a0) (xar σ a) sp.toNatClampNeg dp.toNatClampNeg n.toNatClampNeg)) Q (F0 m (pc + 3) ls rest)) : kx_W p l e fr lo c0 s m args below meth c H locs σ Q (F0 m pc ls (.int n :: .int dp :: .ref a :: .int sp :: .ref a0 :: rest)) := by
  have hany : ∀ i : Nat, i < n.toNatClampNeg → ∀ y : Nat, xar σ a0 (sp.toNatClampNeg + i) = some y → va_Any "java/lang/Object" s H y := fun i hi y hy => kx_any C (hel i hi y hy)
  obtain ⟨L, hL, hP, hD⟩ := C.2.2.2.2
  have g0 : xt σ a0 ≠ 0 := by rw [h0]; decide
  have ga : xt σ a ≠ 0 := by rw [ha]; decide
  obtain ⟨j0, hj0⟩ := va_pl_get (X := []) (f := kx_e G σ) (hL a0 g0)
  obtain ⟨j, hj⟩ := va_pl_get (X := []) (f := kx_e G σ) (hL a ga)
  have hj9 := hj
  rw [kx_e22 h0] at hj0
  rw [kx_e22 ha] at hj
  have hnat := kx_nat
  refine va_copyM (E0 := "java/lang/Object") (E1 := "java/lang/Object") F.1 F.2.1 (F.2.2.1.trans hsz.symm) F.2.2.2.1 (F.2.2.2.2 _ hw) (F.2.2.2.2 _ ux_1) (F.2.2.2.2 _ ux_2) (F.2.2.2.2 _ ux_3) C.2.2.1.1 hP hD C.2.2.2.1 j0 j 2 2 hj0 hj rfl rfl h1 h2 h3 h4 h5 hany hf (by show _ ≤ lo; omega) hdg (fun H1 locs1 hP1 hD1 hS1 => ?_)
  refine kk H1 locs1 (kx_chg (τ := xsAR σ a _) C hL hD ga hj9 (fun b => ?_) (fun _ h => h) rfl rfl hP1 hD1 hS1)
  by_cases hb : b = a
  · rw [hb, va_up_self, kx_e22 (show xt (xsAR σ a _) a = 22 from ha), xar_self]; rfl
  · rw [va_up_ne _ _ hb, kx_nsAR hb]
theorem kx_copyi {a0 a : Nat} {sp dp n : Int32} (F : CallFix p m c cc nL s args kt_ own) (C : kx_X G c0 s H locs σ) (hw : Cond.methodLink own index arraycopyName ∈ kt_) (h0 : xt σ a0 = 20) (ha : xt σ a = 20) (h1 : ¬ sp < 0) (h2 : ¬ dp < 0) (h3 : ¬ n < 0) (h4 : sp.toNatClampNeg + n.toNatClampNeg ≤ xn σ a0) (h5 : dp.toNatClampNeg + n.toNatClampNeg ≤ xn σ a)
    (hf : 1 ≤ fr) (hlo : (rest.map fun v => v.category).sum + 100 ≤ lo) (hsz : ls.size = nL) (hdg : decode cc pc = .ok (.invokestatic index, 3))
    (kk : ∀ (H1 : Heap) (locs1 : List Loc), kx_X G c0 s H1 locs1 (xsAI σ a (va_cpy (xai σ a0) (xai σ a) sp.toNatClampNeg dp.toNatClampNeg n.toNatClampNeg)) → kx_W p l e fr lo c0 s m args below meth c H1 locs1 (xsAI σ a (va_cpy (xai σ a0) (xai σ a) sp.toNatClampNeg dp.toNatClampNeg n.toNatClampNeg)) Q (F0 m (pc + 3) ls rest)) : kx_W p l e fr lo c0 s m args below meth c H locs σ Q (F0 m pc ls (.int n :: .int dp :: .ref a :: .int sp :: .ref a0 :: rest)) := by
  obtain ⟨L, hL, hP, hD⟩ := C.2.2.2.2
  have g0 : xt σ a0 ≠ 0 := by rw [h0]; decide
  have ga : xt σ a ≠ 0 := by rw [ha]; decide
  obtain ⟨j0, hj0⟩ := va_pl_get (X := []) (f := kx_e G σ) (hL a0 g0)
  obtain ⟨j, hj⟩ := va_pl_get (X := []) (f := kx_e G σ) (hL a ga)
  have hj9 := hj
  rw [kx_e20 h0] at hj0
  rw [kx_e20 ha] at hj
  have hnat := kx_nat
  refine va_copyi (ty := .int) F.1 F.2.1 (F.2.2.1.trans hsz.symm) F.2.2.2.1 (F.2.2.2.2 _ hw) (F.2.2.2.2 _ ux_1) (F.2.2.2.2 _ ux_2) (F.2.2.2.2 _ ux_3) C.2.2.1.1 hP hD C.2.2.2.1 j0 j 0 0 hj0 hj rfl rfl rfl h1 h2 h3 h4 h5 (fun _ _ => rfl) hf (by show _ ≤ lo; omega) hdg (fun H1 locs1 hP1 hD1 hS1 => ?_)
  refine kk H1 locs1 (kx_chg (τ := xsAI σ a _) C hL hD ga hj9 (fun b => ?_) (fun _ h => h) rfl rfl hP1 hD1 hS1)
  by_cases hb : b = a
  · rw [hb, va_up_self, kx_e20 (show xt (xsAI σ a _) a = 20 from ha), xAI_self]; rfl
  · rw [va_up_ne _ _ hb, kx_nsAI hb]
/-- int[].clone() in java.util.Arrays -/
theorem kx_clone {a : Nat} (F : CallFix p m c cc nL s args kt_ RJ7) (C : kx_X G c0 s H locs σ) (ha : xt σ a = 20) (hN : xc σ < kx_N) (hm : xn σ a ≤ 600) (hf : 1 ≤ fr) (hlo : (rest.map fun v => v.category).sum + 14 ≤ lo) (hsz : ls.size = nL) (hdg : decode cc pc = .ok (.invokevirtual 316, 3))
    (kk : ∀ (q : Nat) (H1 : Heap), xt σ q = 0 → q ≠ kx_z G → kx_X G c0 s H1 locs (xsAI (xnewA σ q 20 (xn σ a)) q (xai σ a)) → kx_W p l e fr lo c0 s m args below meth c H1 locs (xsAI (xnewA σ q 20 (xn σ a)) q (xai σ a)) Q (F0 m (pc + 3) ls (.ref q :: rest))) : kx_W p l e fr lo c0 s m args below meth c H locs σ Q (F0 m pc ls (.ref a :: rest)) := by
  obtain ⟨L, hL, hP, hD⟩ := C.2.2.2.2
  have h1 := C.1
  obtain ⟨j, hj⟩ := va_pl_get (X := []) (f := kx_e G σ) (hL a (by rw [ha]; decide))
  rw [kx_e20 ha] at hj
  have hfi : ∀ (i : Nat) (v : Value), (vp_cell G.2.1 (xn σ a, .inl (xai σ a))).slots[i]? = some v → fits .int v = true := by
    intro i v hv
    rw [vp_cell_i] at hv
    by_cases hi : i < xn σ a
    · rw [arrV_read _ _ hi] at hv
      cases hv
      rfl
    · rw [Array.getElem?_eq_none (by rw [arrV_size]; omega)] at hv
      cases hv
  refine va_clone (ad := "[I") (ty := .int) F.1 F.2.1 (F.2.2.1.trans hsz.symm) F.2.2.2.1 (F.2.2.2.2 _ ux_4) (F.2.2.2.2 _ ux_5) (F.2.2.2.2 _ ux_6) (F.2.2.2.2 _ ux_7) (F.2.2.2.2 _ ux_8) C.2.2.1.2.2.2.1.2.2.2.2.2.2.1 C.2.2.1.1 hP hD C.2.2.2.1 C.2.2.1.2.1 j 0 hj rfl (C.2.2.1.1.2 0 _ rfl).2 hfi hf (by show _ ≤ lo; omega) (by show _ ≤ kx_N - c0; omega) (by show _ ≤ 600 * (kx_N - c0); simp only []; omega) hdg (fun q H1 hK1 hP1 hD1 hS1 => ?_)
  have hup : ∀ b, va_up (kx_e G σ) q (.inl (G.2.1, xn σ a, .inl (xai σ a))) b = kx_e G (xsAI (xnewA σ q 20 (xn σ a)) q (xai σ a)) b := by
    intro b
    by_cases hb : b = q
    · rw [hb, va_up_self, kx_e20 (show xt (xsAI (xnewA σ q 20 (xn σ a)) q (xai σ a)) q = 20 from va_up_self _ _ _), xAI_self, show xn (xsAI (xnewA σ q 20 (xn σ a)) q (xai σ a)) q = xn σ a from xnn_self σ q 20 (xn σ a)]
    · rw [va_up_ne _ _ hb, kx_nsAI hb, kx_nnewA hb]
  obtain ⟨hq, X1⟩ := kx_add C hL hup (fun b hb => va_up_ne _ _ hb) rfl rfl hN hP1 hD1 hS1
  have h0 : xt σ q = 0 := by
    by_cases h : xt σ q = 0
    · exact h
    · exact absurd (hL q h) hq
  have hAq : kx_A G q := hD1.2 L.length _ (by rw [List.getElem?_append_right (by simp [va_pl])]; simp [va_pl]; exact rfl)
  have k9 := kk q H1 h0 (fun h => C.2.2.1.2.2.1.2.1.out (by rw [← h]; exact hAq)) X1
  refine W.widen ?_ ?_ k9
  · show _ ≤ xc σ + 1 - c0; omega
  · show _ ≤ 600 * (xc σ + 1 - c0); simp only []; omega
/-- the class object of a row of references, in java.util.Arrays -/
theorem kx_getC {a : Nat} (F : CallFix p m c cc nL s args kt_ RJ7) (C : kx_X G c0 s H locs σ) (ha : xt σ a = 22) (hf : 1 ≤ fr) (hlo : (rest.map fun v => v.category).sum + 14 ≤ lo) (hsz : ls.size = nL) (hdg : decode cc pc = .ok (.invokevirtual 86, 3)) (kk : kx_W p l e fr lo c0 s m args below meth c H locs σ Q (F0 m (pc + 3) ls (.ref (kx_mi G) :: rest))) : kx_W p l e fr lo c0 s m args below meth c H locs σ Q (F0 m pc ls (.ref a :: rest)) := by
  obtain ⟨L, hL, hP, hD⟩ := C.2.2.2.2
  obtain ⟨j, hj⟩ := va_pl_get (X := []) (f := kx_e G σ) (hL a (by rw [ha]; decide))
  rw [kx_e22 ha] at hj
  exact va_getC (C := "[Ljava/lang/Object;") F.1 F.2.1 (F.2.2.1.trans hsz.symm) F.2.2.2.1 (F.2.2.2.2 _ ux_9) (va_Dc.use C.2.2.1.2.2.2.1.2.2.2.2.2.2.2.1) (F.2.2.2.2 _ ux_10) (F.2.2.2.2 _ ux_11) (F.2.2.2.2 _ ux_12) C.2.2.1.2.2.2.1.2.2.2.2.2.2.2.2 ⟨_, hP j _ hj, rfl, va_nmO (C.2.2.1.1.2 2 _ rfl).2 (by decide)⟩ hf hlo hdg kk
theorem kx_ldcM (F : CallFix p m c cc nL s args kt_ own) (C : kx_X G c0 s H locs σ) (hw : Cond.classLink own index "[Ljava/lang/Object;" ∈ kt_) (hdg : decode cc pc = .ok (.ldc index, 2)) (kk : kx_W p l e fr lo c0 s m args below meth c H locs σ Q (F0 m (pc + 2) ls (.ref (kx_mi G) :: rest))) : kx_W p l e fr lo c0 s m args below meth c H locs σ Q (F0 m pc ls rest) :=
  va_ldcM F.1 F.2.1 F.2.2.2.1 (F.2.2.2.2 _ hw) C.2.2.1.2.2.2.1.2.2.2.2.2.2.2.2 hdg kk
theorem kx_max {x y : Int32} (F : CallFix p m c cc nL s args kt_ own) (C : kx_X G c0 s H locs σ) (hw : Cond.methodLink own index Lib.Math.max.name ∈ kt_) (hf : 1 ≤ fr) (hlo : (rest.map fun v => v.category).sum + 13 ≤ lo) (hsz : ls.size = nL) (hdg : decode cc pc = .ok (.invokestatic index, 3)) (kk : kx_W p l e fr lo c0 s m args below meth c H locs σ Q (F0 m (pc + 3) ls (.int (if x < y then y else x) :: rest))) : kx_W p l e fr lo c0 s m args below meth c H locs σ Q (F0 m pc ls (.int y :: .int x :: rest)) := by
  have h1 := C.1
  have h2 := C.2.1.2
  exact va_mmax F.1 F.2.1 (F.2.2.1.trans hsz.symm) F.2.2.2.1 (F.2.2.2.2 _ hw) (F.2.2.2.2 _ ux_13) (F.2.2.2.2 _ ux_14) (F.2.2.2.2 _ ux_15) hf hlo (by show _ ≤ kx_N - c0; omega) (by show _ ≤ 600 * (kx_N - c0); omega) hdg kk
theorem kx_min {x y : Int32} (F : CallFix p m c cc nL s args kt_ own) (C : kx_X G c0 s H locs σ) (hw : Cond.methodLink own index Lib.Math.min.name ∈ kt_) (hf : 1 ≤ fr) (hlo : (rest.map fun v => v.category).sum + 13 ≤ lo) (hsz : ls.size = nL) (hdg : decode cc pc = .ok (.invokestatic index, 3)) (kk : kx_W p l e fr lo c0 s m args below meth c H locs σ Q (F0 m (pc + 3) ls (.int (if y < x then y else x) :: rest))) : kx_W p l e fr lo c0 s m args below meth c H locs σ Q (F0 m pc ls (.int y :: .int x :: rest)) := by
  have h1 := C.1
  have h2 := C.2.1.2
  exact va_mmin F.1 F.2.1 (F.2.2.1.trans hsz.symm) F.2.2.2.1 (F.2.2.2.2 _ hw) (F.2.2.2.2 _ ux_16) (F.2.2.2.2 _ ux_14) (F.2.2.2.2 _ ux_17) hf hlo (by show _ ≤ kx_N - c0; omega) (by show _ ≤ 600 * (kx_N - c0); omega) hdg kk
theorem kx_objI {a : Nat} (F : CallFix p m c cc nL s args kt_ own) (hw : Cond.methodLink own index Lib.objectInit ∈ kt_) (hsz : ls.size = nL) (hf : 1 ≤ fr) (hlo : (rest.map fun v => v.category).sum + 12 ≤ lo) (hdg : decode cc pc = .ok (.invokespecial index, 3)) (kk : kx_W p l e fr lo c0 s m args below meth c H locs σ Q (F0 m (pc + 3) ls rest)) : kx_W p l e fr lo c0 s m args below meth c H locs σ Q (F0 m pc ls (.ref a :: rest)) :=
  W.objInit F.1 F.2.1 F.2.2.2.1 (F.2.2.2.2 _ hw) (F.2.2.2.2 _ ux_18) (F.2.2.2.2 _ ux_19) (g := F0 m pc ls (.ref a :: rest)) rfl (by rw [F.2.2.1]; exact hsz) rfl hdg hf (by show 2 * 0 + _ + 12 ≤ lo; omega) kk
/-- ArrayList's empty array -/
theorem kx_getz (F : CallFix p m c cc nL s args kt_ RJx4a65c) (C : kx_X G c0 s H locs σ) (hdg : decode cc pc = .ok (.getstatic 39, 3)) (kk : kx_W p l e fr lo c0 s m args below meth c H locs σ Q (F0 m (pc + 3) ls (va_rf (some (xz σ)) :: rest))) : kx_W p l e fr lo c0 s m args below meth c H locs σ Q (F0 m pc ls rest) := by
  have k9 : kx_W p l e fr lo c0 s m args below meth c H locs σ Q (F0 m (pc + 3) ls (.ref (kx_z G) :: rest)) := by rw [← C.2.1.1]; exact kk
  exact va_gets F.1 F.2.1 C.2.2.1.2.2.1.1 C.2.2.2.1 F.2.2.2.1 (F.2.2.2.2 _ ux_20) (fun _ h9 => h9) hdg k9
end

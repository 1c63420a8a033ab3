/-! arrays, casts, calls, ends -/
/-- a tag of what lies in lists -/
def kx_el (t : Nat) : Prop := t = 3 ∨ t = 4 ∨ t = 6 ∨ t = 8 ∨ t = 9 ∨ t = 10
theorem kx_el.ne {t : Nat} (h : kx_el t) : t ≠ 0 := by unfold kx_el at h; omega
theorem xai_self (σ : kx_S) (a i : Nat) (x : Int32) : xai (xsai σ a i x) a = upd (xai σ a) i x := va_up_self (σ.2.2.2.2.2.1) a (upd (σ.2.2.2.2.2.1 a) i x)
theorem xal_self (σ : kx_S) (a i : Nat) (x : Int64) : xal (xsal σ a i x) a = vp_updL (xal σ a) i x := va_up_self (σ.2.2.2.2.2.2.1) a (vp_updL (σ.2.2.2.2.2.2.1 a) i x)
theorem xar_self (σ : kx_S) (a : Nat) (f : Nat → Option Nat) : xar (xsAR σ a f) a = f := va_up_self (σ.2.2.2.2.2.2.2.1) a f
theorem xAI_self (σ : kx_S) (a : Nat) (f : Nat → Int32) : xai (xsAI σ a f) a = f := va_up_self (σ.2.2.2.2.2.1) a f
theorem xain_self (σ : kx_S) (a t n : Nat) : xai (xnewA σ a t n) a = fun _ => 0 := va_up_self (σ.2.2.2.2.2.1) a (fun _ => 0)
theorem xarn_self (σ : kx_S) (a t n : Nat) : xar (xnewA σ a t n) a = fun _ => none := va_up_self (σ.2.2.2.2.2.2.2.1) a (fun _ => none)
theorem xnn_self (σ : kx_S) (a t n : Nat) : xn (xnewA σ a t n) a = n := va_up_self (σ.2.2.2.2.1) a n
section
variable {p : Program} {l : Launch} {e : Env} {fr lo c0 : Nat} {s : State} {m : MethodId} {args : Array Value} {below : List Frame} {meth : Method} {c : Code} {H : Heap} {locs : List Loc} {Q : State → Prop}
variable {cc : ByteArray} {pc nL : Nat} {ls : Array Slot} {rest : List Value} {G : kx_G} {σ τ : kx_S} {own : String}
/-- a cell of the pool, by its place -/
theorem kx_at (C : kx_X G c0 s H locs σ) {a : Nat} (ha : xt σ a ≠ 0) : va_at G.1 vwCl (a, kx_e G σ a) H := by
  obtain ⟨L, hL, hP, hD⟩ := C.2.2.2.2
  obtain ⟨j, hj⟩ := va_pl_get (X := []) (f := kx_e G σ) (hL a ha)
  exact hP j _ hj
theorem kx_recv (C : kx_X G c0 s H locs σ) {a ci : Nat} {r : vw_C} {fs : List Value} (ha : xt σ a ≠ 0) (he : kx_e G σ a = .inr (ci, fs)) (hc : vwCl[ci]? = some r) : ∃ cell : Cell, H[a]? = some cell ∧ cell.vm.isStatics = false ∧ s.vm.findClass r.1 = some cell.cls := by
  obtain ⟨L, hL, hP, hD⟩ := C.2.2.2.2
  obtain ⟨j, hj⟩ := va_pl_get (X := []) (f := kx_e G σ) (hL a ha)
  rw [he] at hj
  exact va_recv C.2.2.1.1 hP hc hj
theorem kx_iald {a : Nat} {i : Int32} (F : CallFix p m c cc nL s args kt_ own) (C : kx_X G c0 s H locs σ) (ha : xt σ a = 20) (hin : vp_in i (xn σ a)) (hdg : decode cc pc = .ok (.iaload, 1)) (kk : kx_W p l e fr lo c0 s m args below meth c H locs σ Q (F0 m (pc + 1) ls (.int (xai σ a i.toNatClampNeg) :: rest))) : kx_W p l e fr lo c0 s m args below meth c H locs σ Q (F0 m pc ls (.int i :: .ref a :: rest)) := by
  obtain ⟨L, hL, hP, hD⟩ := C.2.2.2.2
  obtain ⟨j, hj⟩ := va_pl_get (X := []) (f := kx_e G σ) (hL a (by rw [ha]; decide))
  rw [kx_e20 ha] at hj
  exact va_iald F.1 F.2.1 C.2.2.1.1 hP j 0 hj rfl hin hdg kk
theorem kx_lald {a : Nat} {i : Int32} (F : CallFix p m c cc nL s args kt_ own) (C : kx_X G c0 s H locs σ) (ha : xt σ a = 21) (hin : vp_in i (xn σ a)) (hdg : decode cc pc = .ok (.laload, 1)) (kk : kx_W p l e fr lo c0 s m args below meth c H locs σ Q (F0 m (pc + 1) ls (.long (xal σ a i.toNatClampNeg) :: rest))) : kx_W p l e fr lo c0 s m args below meth c H locs σ Q (F0 m pc ls (.int i :: .ref a :: rest)) := by
  obtain ⟨L, hL, hP, hD⟩ := C.2.2.2.2
  obtain ⟨j, hj⟩ := va_pl_get (X := []) (f := kx_e G σ) (hL a (by rw [ha]; decide))
  rw [kx_e21 ha] at hj
  exact va_lald F.1 F.2.1 C.2.2.1.1 hP j 1 hj rfl hin hdg kk
theorem kx_aald {a : Nat} {i : Int32} (F : CallFix p m c cc nL s args kt_ own) (C : kx_X G c0 s H locs σ) (ha : xt σ a = 22) (hin : vp_in i (xn σ a)) (hdg : decode cc pc = .ok (.aaload, 1)) (kk : kx_W p l e fr lo c0 s m args below meth c H locs σ Q (F0 m (pc + 1) ls (va_rf (xar σ a i.toNatClampNeg) :: rest))) : kx_W p l e fr lo c0 s m args below meth c H locs σ Q (F0 m pc ls (.int i :: .ref a :: rest)) := by
  obtain ⟨L, hL, hP, hD⟩ := C.2.2.2.2
  obtain ⟨j, hj⟩ := va_pl_get (X := []) (f := kx_e G σ) (hL a (by rw [ha]; decide))
  rw [kx_e22 ha] at hj
  exact va_aldq F.1 F.2.1 C.2.2.1.1 hP j 2 hj rfl hin hdg kk
theorem kx_iast {a : Nat} {i x : Int32} (F : CallFix p m c cc nL s args kt_ own) (C : kx_X G c0 s H locs σ) (ha : xt σ a = 20) (hin : vp_in i (xn σ a)) (hdg : decode cc pc = .ok (.iastore, 1)) (kk : ∀ (H1 : Heap) (locs1 : List Loc), kx_X G c0 s H1 locs1 (xsai σ a i.toNatClampNeg x) → kx_W p l e fr lo c0 s m args below meth c H1 locs1 (xsai σ a i.toNatClampNeg x) Q (F0 m (pc + 1) ls rest)) : kx_W p l e fr lo c0 s m args below meth c H locs σ Q (F0 m pc ls (.int x :: .int i :: .ref a :: rest)) := by
  obtain ⟨L, hL, hP, hD⟩ := C.2.2.2.2
  have h0 : xt σ a ≠ 0 := by rw [ha]; decide
  obtain ⟨j, hj⟩ := va_pl_get (X := []) (f := kx_e G σ) (hL a h0)
  have hj0 := hj
  rw [kx_e20 ha] at hj
  refine va_iast F.1 F.2.1 C.2.2.1.1 hP hD C.2.2.2.1 j 0 hj rfl hin hdg (fun H1 locs1 hP1 hD1 hS1 => ?_)
  refine kk H1 locs1 (kx_chg (τ := xsai σ a i.toNatClampNeg x) C hL hD h0 hj0 (fun b => ?_) (fun _ h => h) rfl rfl hP1 hD1 hS1)
  by_cases hb : b = a
  · rw [hb, va_up_self, kx_e20 (show xt (xsai σ a i.toNatClampNeg x) a = 20 from ha)]
    rw [xai_self]; rfl
  · rw [va_up_ne _ _ hb, kx_nsai hb]
theorem kx_last {a : Nat} {i : Int32} {x : Int64} (F : CallFix p m c cc nL s args kt_ own) (C : kx_X G c0 s H locs σ) (ha : xt σ a = 21) (hin : vp_in i (xn σ a)) (hdg : decode cc pc = .ok (.lastore, 1)) (kk : ∀ (H1 : Heap) (locs1 : List Loc), kx_X G c0 s H1 locs1 (xsal σ a i.toNatClampNeg x) → kx_W p l e fr lo c0 s m args below meth c H1 locs1 (xsal σ a i.toNatClampNeg x) Q (F0 m (pc + 1) ls rest)) : kx_W p l e fr lo c0 s m args below meth c H locs σ Q (F0 m pc ls (.long x :: .int i :: .ref a :: rest)) := by
  obtain ⟨L, hL, hP, hD⟩ := C.2.2.2.2
  have h0 : xt σ a ≠ 0 := by rw [ha]; decide
  obtain ⟨j, hj⟩ := va_pl_get (X := []) (f := kx_e G σ) (hL a h0)
  have hj0 := hj
  rw [kx_e21 ha] at hj
  refine va_last F.1 F.2.1 C.2.2.1.1 hP hD C.2.2.2.1 j 1 hj rfl hin hdg (fun H1 locs1 hP1 hD1 hS1 => ?_)
  refine kk H1 locs1 (kx_chg (τ := xsal σ a i.toNatClampNeg x) C hL hD h0 hj0 (fun b => ?_) (fun _ h => h) rfl rfl hP1 hD1 hS1)
  by_cases hb : b = a
  · rw [hb, va_up_self, kx_e21 (show xt (xsal σ a i.toNatClampNeg x) a = 21 from ha)]
    rw [xal_self]; rfl
  · rw [va_up_ne _ _ hb, kx_nsal hb]
/-- what lies in lists is an object of one of six classes -/
theorem kx_elc {v : Nat} (h : kx_el (xt σ v)) : ∃ (ci : Nat) (r : vw_C) (vs : List Value), kx_e G σ v = .inr (ci, vs) ∧ vwCl[ci]? = some r ∧ (∃ t, (t, r.1) ∈ kx_lc) := by
  rcases h with h | h | h | h | h | h
  · exact ⟨_, _, _, kx_e3 h, rfl, 3, by simp [kx_lc]⟩
  · exact ⟨_, _, _, kx_e4 h, rfl, 4, by simp [kx_lc]⟩
  · exact ⟨_, _, _, kx_e6 h, rfl, 6, by simp [kx_lc]⟩
  · exact ⟨_, _, _, kx_e8 h, rfl, 8, by simp [kx_lc]⟩
  · exact ⟨_, _, _, kx_e9 h, rfl, 9, by simp [kx_lc]⟩
  · exact ⟨_, _, _, kx_e10 h, rfl, 10, by simp [kx_lc]⟩
theorem kx_any (C : kx_X G c0 s H locs σ) {v : Nat} (h : kx_el (xt σ v)) : va_Any "java/lang/Object" s H v := by
  obtain ⟨ci, r, vs, he, hc, t, ht⟩ := kx_elc (G := G) h
  obtain ⟨cell, h1, h2, h3⟩ := kx_recv C h.ne he hc
  have hcls := (C.2.2.1.1.1 ci r hc).2
  obtain ⟨c0', t1, f1, f2, f3⟩ := Cond.castable_spec (va_Nw.use (A := #[]) rfl (C.2.2.1.2.2.2.1.2.2.2.2.2.1 (t, r.1) ht))
  cases Option.some.inj (f1.symm.trans h3)
  obtain ⟨hf, kC, hkC, -⟩ := hcls
  have hid : G.1.1 ci = cell.cls := Option.some.inj (hf.symm.trans h3)
  refine ⟨cell, h1, h2, ⟨kC, by rw [← hid]; exact hkC⟩, fun comp hcomp => ?_⟩
  cases Option.some.inj (f2.symm.trans hcomp)
  exact f3
theorem kx_aast {a v : Nat} {i : Int32} (F : CallFix p m c cc nL s args kt_ own) (C : kx_X G c0 s H locs σ) (ha : xt σ a = 22) (hv : kx_el (xt σ v)) (hin : vp_in i (xn σ a)) (hdg : decode cc pc = .ok (.aastore, 1)) (kk : ∀ (H1 : Heap) (locs1 : List Loc), kx_X G c0 s H1 locs1 (xsar σ a i.toNatClampNeg (some v)) → kx_W p l e fr lo c0 s m args below meth c H1 locs1 (xsar σ a i.toNatClampNeg (some v)) Q (F0 m (pc + 1) ls rest)) : kx_W p l e fr lo c0 s m args below meth c H locs σ Q (F0 m pc ls (.ref v :: .int i :: .ref a :: rest)) := by
  have hany := kx_any C hv
  obtain ⟨L, hL, hP, hD⟩ := C.2.2.2.2
  have h0 : xt σ a ≠ 0 := by rw [ha]; decide
  obtain ⟨j, hj⟩ := va_pl_get (X := []) (f := kx_e G σ) (hL a h0)
  have hj0 := hj
  rw [kx_e22 ha] at hj
  refine va_astqM (E := "java/lang/Object") F.1 F.2.1 C.2.2.1.1 hP hD C.2.2.2.1 j 2 hj rfl hany hin hdg (fun H1 locs1 hP1 hD1 hS1 => ?_)
  refine kk H1 locs1 (kx_chg (τ := xsar σ a i.toNatClampNeg (some v)) C hL hD h0 hj0 (fun b => ?_) (fun _ h => h) rfl rfl hP1 hD1 hS1)
  by_cases hb : b = a
  · rw [hb, va_up_self, kx_e22 (show xt (xsar σ a i.toNatClampNeg (some v)) a = 22 from ha)]
    rw [xsar, xar_self]; rfl
  · rw [va_up_ne _ _ hb, xsar, kx_nsAR hb]
theorem kx_aastN {a : Nat} {i : Int32} (F : CallFix p m c cc nL s args kt_ own) (C : kx_X G c0 s H locs σ) (ha : xt σ a = 22) (hin : vp_in i (xn σ a)) (hdg : decode cc pc = .ok (.aastore, 1)) (kk : ∀ (H1 : Heap) (locs1 : List Loc), kx_X G c0 s H1 locs1 (xsar σ a i.toNatClampNeg none) → kx_W p l e fr lo c0 s m args below meth c H1 locs1 (xsar σ a i.toNatClampNeg none) Q (F0 m (pc + 1) ls rest)) : kx_W p l e fr lo c0 s m args below meth c H locs σ Q (F0 m pc ls (.null :: .int i :: .ref a :: rest)) := by
  obtain ⟨L, hL, hP, hD⟩ := C.2.2.2.2
  have h0 : xt σ a ≠ 0 := by rw [ha]; decide
  obtain ⟨j, hj⟩ := va_pl_get (X := []) (f := kx_e G σ) (hL a h0)
  have hj0 := hj
  rw [kx_e22 ha] at hj
  refine va_astqN F.1 F.2.1 C.2.2.1.1 hP hD C.2.2.2.1 j 2 hj rfl hin hdg (fun H1 locs1 hP1 hD1 hS1 => ?_)
  refine kk H1 locs1 (kx_chg (τ := xsar σ a i.toNatClampNeg none) C hL hD h0 hj0 (fun b => ?_) (fun _ h => h) rfl rfl hP1 hD1 hS1)
  by_cases hb : b = a
  · rw [hb, va_up_self, kx_e22 (show xt (xsar σ a i.toNatClampNeg none) a = 22 from ha)]
    rw [xsar, xar_self]; rfl
  · rw [va_up_ne _ _ hb, xsar, kx_nsAR hb]
theorem kx_alen {a : Nat} (F : CallFix p m c cc nL s args kt_ own) (C : kx_X G c0 s H locs σ) (ha : xt σ a = 20 ∨ xt σ a = 22) (hdg : decode cc pc = .ok (.arraylength, 1)) (kk : kx_W p l e fr lo c0 s m args below meth c H locs σ Q (F0 m (pc + 1) ls (.int (nI (xn σ a)) :: rest))) : kx_W p l e fr lo c0 s m args below meth c H locs σ Q (F0 m pc ls (.ref a :: rest)) := by
  obtain ⟨L, hL, hP, hD⟩ := C.2.2.2.2
  rcases ha with ha | ha
  · obtain ⟨j, hj⟩ := va_pl_get (X := []) (f := kx_e G σ) (hL a (by rw [ha]; decide))
    rw [kx_e20 ha] at hj
    exact va_alen F.1 F.2.1 C.2.2.1.1 hP j 0 hj rfl rfl hdg kk
  · obtain ⟨j, hj⟩ := va_pl_get (X := []) (f := kx_e G σ) (hL a (by rw [ha]; decide))
    rw [kx_e22 ha] at hj
    exact va_alen F.1 F.2.1 C.2.2.1.1 hP j 2 hj rfl rfl hdg kk
theorem kx_alenz {a : Nat} (F : CallFix p m c cc nL s args kt_ own) (C : kx_X G c0 s H locs σ) (ha : a = xz σ) (hdg : decode cc pc = .ok (.arraylength, 1)) (kk : kx_W p l e fr lo c0 s m args below meth c H locs σ Q (F0 m (pc + 1) ls (.int 0 :: rest))) : kx_W p l e fr lo c0 s m args below meth c H locs σ Q (F0 m pc ls (.ref a :: rest)) := by
  rw [ha, C.2.1.1]
  exact va_tlen (v := 0) F.1 F.2.1 C.2.2.1.2.2.1.2.1 C.2.2.2.1 rfl hdg kk
/-- a new array -/
theorem kx_newi {n : Int32} (F : CallFix p m c cc nL s args kt_ own) (C : kx_X G c0 s H locs σ) (hw : Cond.arrayClass .int ∈ kt_) (hN : xc σ < kx_N) (hn : ¬ n < 0) (hm : n.toNatClampNeg ≤ 600) (hdg : decode cc pc = .ok (.newarray .int, 2))
    (kk : ∀ (q : Nat) (H1 : Heap), xt σ q = 0 → q ≠ kx_z G → kx_X G c0 s H1 locs (xnewA σ q 20 n.toNatClampNeg) → kx_W p l e fr lo c0 s m args below meth c H1 locs (xnewA σ q 20 n.toNatClampNeg) Q (F0 m (pc + 2) ls (.ref q :: rest))) : kx_W p l e fr lo c0 s m args below meth c H locs σ Q (F0 m pc ls (.int n :: rest)) := by
  obtain ⟨L, hL, hP, hD⟩ := C.2.2.2.2
  have h1 := C.1
  refine va_newa (atype := .int) (ty := .int) (N' := n.toNatClampNeg) (n := n) (a0 := (n.toNatClampNeg, .inl (fun _ => 0))) F.1 F.2.1 (F.2.2.2.2 _ hw) rfl C.2.2.1.1 hP hD C.2.2.2.1 C.2.2.1.2.1 (fun _ => rfl) hn rfl (by show _ * 4 ≤ _; omega) (by show _ ≤ kx_N - c0; omega) (by show _ ≤ 600 * (kx_N - c0); omega) hdg (fun q cA H1 hK1 hP1 hD1 hS1 => ?_)
  have hcA : cA = G.2.1 := Option.some.inj ((hK1.2 3 _ rfl).2.symm.trans (hK1.2 0 _ rfl).2)
  subst hcA
  have hup : ∀ b, va_up (kx_e G σ) q (.inl (G.2.1, n.toNatClampNeg, .inl (fun _ => 0))) b = kx_e G (xnewA σ q 20 n.toNatClampNeg) b := by
    intro b
    by_cases hb : b = q
    · rw [hb, va_up_self, kx_e20 (show xt (xnewA σ q 20 n.toNatClampNeg) q = 20 from va_up_self _ _ _)]
      rw [xain_self, xnn_self]
    · rw [va_up_ne _ _ hb, kx_nnewA hb]
  obtain ⟨hq, X1⟩ := kx_add C hL hup (fun b hb => va_up_ne _ _ hb) rfl rfl hN hP1 hD1 hS1
  have h0 : xt σ q = 0 := by
    by_cases h : xt σ q = 0
    · exact h
    · exact absurd (hL q h) hq
  have hAq : kx_A G q := hD1.2 L.length _ (by rw [List.getElem?_append_right (by simp [va_pl])]; simp [va_pl]; exact rfl)
  have k9 := kk q H1 h0 (fun h => C.2.2.1.2.2.1.2.1.out (by rw [← h]; exact hAq)) X1
  refine W.widen ?_ ?_ k9
  · show _ ≤ xc σ + 1 - c0; omega
  · show _ ≤ 600 * (xc σ + 1 - c0); omega
theorem kx_newq {n : Int32} {index : Nat} (F : CallFix p m c cc nL s args kt_ own) (C : kx_X G c0 s H locs σ) (hw : Cond.classLink own index "java/lang/Object" ∈ kt_) (hN : xc σ < kx_N) (hn : ¬ n < 0) (hm : n.toNatClampNeg ≤ 600) (hdg : decode cc pc = .ok (.anewarray index, 3))
    (kk : ∀ (q : Nat) (H1 : Heap), xt σ q = 0 → q ≠ kx_z G → kx_X G c0 s H1 locs (xnewA σ q 22 n.toNatClampNeg) → kx_W p l e fr lo c0 s m args below meth c H1 locs (xnewA σ q 22 n.toNatClampNeg) Q (F0 m (pc + 3) ls (.ref q :: rest))) : kx_W p l e fr lo c0 s m args below meth c H locs σ Q (F0 m pc ls (.int n :: rest)) := by
  obtain ⟨L, hL, hP, hD⟩ := C.2.2.2.2
  have h1 := C.1
  refine va_newq (N' := n.toNatClampNeg) (C := "java/lang/Object") F.1 F.2.1 F.2.2.2.1 (F.2.2.2.2 _ hw) C.2.2.1.2.2.2.1.2.2.2.2.1 C.2.2.1.1 hP hD C.2.2.2.1 C.2.2.1.2.1 hn rfl (by omega) (by show _ ≤ kx_N - c0; omega) (by show _ ≤ 600 * (kx_N - c0); omega) hdg (fun q cA H1 hK1 hP1 hD1 hS1 => ?_)
  have hcA : cA = G.2.2.2.1 := by
    obtain ⟨kA, comp, -, -, -, e1⟩ := (hK1.2 3 _ rfl).2
    obtain ⟨kB, comq, -, -, -, e2⟩ := (hK1.2 2 _ rfl).2
    exact Option.some.inj (e1.symm.trans e2)
  subst hcA
  have hup : ∀ b, va_up (kx_e G σ) q (.inl (G.2.2.2.1, n.toNatClampNeg, .inr (.inr (.inr (.inr (fun _ => none)))))) b = kx_e G (xnewA σ q 22 n.toNatClampNeg) b := by
    intro b
    by_cases hb : b = q
    · rw [hb, va_up_self, kx_e22 (show xt (xnewA σ q 22 n.toNatClampNeg) q = 22 from va_up_self _ _ _)]
      rw [xarn_self, xnn_self]
    · rw [va_up_ne _ _ hb, kx_nnewA hb]
  obtain ⟨hq, X1⟩ := kx_add C hL hup (fun b hb => va_up_ne _ _ hb) rfl rfl hN hP1 hD1 hS1
  have h0 : xt σ q = 0 := by
    by_cases h : xt σ q = 0
    · exact h
    · exact absurd (hL q h) hq
  have hAq : kx_A G q := hD1.2 L.length _ (by rw [List.getElem?_append_right (by simp [va_pl])]; simp [va_pl]; exact rfl)
  have k9 := kk q H1 h0 (fun h => C.2.2.1.2.2.1.2.1.out (by rw [← h]; exact hAq)) X1
  refine W.widen ?_ ?_ k9
  · show _ ≤ xc σ + 1 - c0; omega
  · show _ ≤ 600 * (xc σ + 1 - c0); omega
/-- a cast that holds -/
theorem kx_cast {a ci index : Nat} {r : vw_C} {fs : List Value} (F : CallFix p m c cc nL s args kt_ own) (C : kx_X G c0 s H locs σ) (ha : xt σ a ≠ 0) (he : kx_e G σ a = .inr (ci, fs)) (hc : vwCl[ci]? = some r) (hw : Cond.classLink own index r.1 ∈ kt_) (hdg : decode cc pc = .ok (.checkcast index, 3)) (kk : kx_W p l e fr lo c0 s m args below meth c H locs σ Q (F0 m (pc + 3) ls (.ref a :: rest))) : kx_W p l e fr lo c0 s m args below meth c H locs σ Q (F0 m pc ls (.ref a :: rest)) :=
  va_castE F.1 F.2.1 F.2.2.2.1 (F.2.2.2.2 _ hw) (kx_recv C ha he hc) hdg kk
/-- calls -/
theorem kx_room (C : kx_X G c0 s H locs σ) : xc σ - c0 + (kx_N - xc σ) ≤ (kx_rm fr lo c0).cells ∧ 600 * (xc σ - c0) + 600 * (kx_N - xc σ) ≤ (kx_rm fr lo c0).slots := by
  have h1 := C.1
  have h2 := C.2.1.2
  constructor
  · show _ ≤ kx_N - c0; omega
  · show _ ≤ 600 * (kx_N - c0); omega
theorem kx_cV {y : MethodName} {bytes : ByteArray} {maxL f1 l1 n index b : Nat} {ret : Option FieldType} {As : List Value} {P : Option Value → kx_S → Prop} {Cn : String} (F : CallFix p m c cc nL s args kt_ own) (C : kx_X G c0 s H locs σ) (hM : kx_M l G y bytes maxL ret f1 l1 (.ref b :: As) σ P)
    (hT : GoodIn kt_ (wsV own index Cn y (kt_w y bytes maxL ret))) (hd : y.cls = Cn ∧ y.cls ≠ "java/lang/invoke/MethodHandle" ∧ y.cls ≠ "java/lang/invoke/VarHandle" ∧ (parseMethodDescriptor y.desc).map (fun d => d.parameters.length) = some n) (hR : f1 + 1 ≤ fr ∧ 8 + (maxL + 11) + l1 ≤ lo) (hrc : ∃ cell : Cell, H[b]? = some cell ∧ cell.vm.isStatics = false ∧ s.vm.findClass Cn = some cell.cls) (hn : As.length = n) (hsz : ls.size = nL) (hW : (rest.map fun v => v.category).sum ≤ 8) (hdg : decode cc pc = .ok (.invokevirtual index, 3))
    (kk : ∀ (v : Option Value) (u : kx_S) (H1 : Heap) (locs1 : List Loc), P v u → kx_X G c0 s H1 locs1 u → kx_W p l e fr lo c0 s m args below meth c H1 locs1 u Q (F0 m (pc + 3) ls (v.toList ++ rest))) : kx_W p l e fr lo c0 s m args below meth c H locs σ Q (F0 m pc ls (As.reverse ++ .ref b :: rest)) :=
  kx_call C (va_runV (As := As) (rest := rest) F hM (cwV n F.2.2.2.2 hT rfl rfl rfl hd hR) ⟨kx_blind, hrc, fun U hU hW9 => ⟨rfl, kx_pre C U hU hW9⟩⟩ rfl hn hsz rfl (lv_room hW) hdg (kx_room C)) kk
theorem kx_cI {y : MethodName} {bytes : ByteArray} {maxL f1 l1 n index b : Nat} {As : List Value} {P : Option Value → kx_S → Prop} (F : CallFix p m c cc nL s args kt_ own) (C : kx_X G c0 s H locs σ) (hM : kx_M l G y bytes maxL none f1 l1 (.ref b :: As) σ P)
    (hT : Cond.code y bytes maxL none ∈ kt_) (hi : Cond.initialized y.cls ∈ kt_) (hl : Cond.methodLink own index y ∈ kt_) (hm : Cond.instanceMethod y ∈ kt_) (hy : y.name = "<init>") (hd : y.cls ≠ "java/lang/invoke/MethodHandle" ∧ y.cls ≠ "java/lang/invoke/VarHandle" ∧ (parseMethodDescriptor y.desc).map (fun d => d.parameters.length) = some n) (hR : f1 + 1 ≤ fr ∧ 8 + (maxL + 11) + l1 ≤ lo) (hn : As.length = n) (hsz : ls.size = nL) (hW : (rest.map fun v => v.category).sum ≤ 8) (hdg : decode cc pc = .ok (.invokespecial index, 3))
    (kk : ∀ (v : Option Value) (u : kx_S) (H1 : Heap) (locs1 : List Loc), P v u → kx_X G c0 s H1 locs1 u → kx_W p l e fr lo c0 s m args below meth c H1 locs1 u Q (F0 m (pc + 3) ls (v.toList ++ rest))) : kx_W p l e fr lo c0 s m args below meth c H locs σ Q (F0 m pc ls (As.reverse ++ .ref b :: rest)) :=
  kx_call C (va_runI (As := As) (rest := rest) F hM (cwI n F.2.2.2.2 (kt_c hT) rfl rfl rfl (F.2.2.2.2 _ hi) (F.2.2.2.2 _ hl) (F.2.2.2.2 _ hm) hy hd hR) ⟨kx_blind, fun U hU hW9 => ⟨rfl, kx_pre C U hU hW9⟩⟩ rfl hn hsz rfl (lv_room hW) hdg (kx_room C)) kk
theorem kx_cS {y : MethodName} {bytes : ByteArray} {maxL f1 l1 n index : Nat} {ret : Option FieldType} {As : List Value} {P : Option Value → kx_S → Prop} (F : CallFix p m c cc nL s args kt_ own) (C : kx_X G c0 s H locs σ) (hM : kx_M l G y bytes maxL ret f1 l1 As σ P)
    (hT : GoodIn kt_ (va_wsS own index y (kt_w y bytes maxL ret))) (hd : y.cls ≠ "java/lang/invoke/MethodHandle" ∧ y.cls ≠ "java/lang/invoke/VarHandle" ∧ (parseMethodDescriptor y.desc).map (fun d => d.parameters.length) = some n) (hR : f1 + 1 ≤ fr ∧ 8 + (maxL + 11) + l1 ≤ lo) (hn : As.length = n) (hsz : ls.size = nL) (hW : (rest.map fun v => v.category).sum ≤ 8) (hdg : decode cc pc = .ok (.invokestatic index, 3))
    (kk : ∀ (v : Option Value) (u : kx_S) (H1 : Heap) (locs1 : List Loc), P v u → kx_X G c0 s H1 locs1 u → kx_W p l e fr lo c0 s m args below meth c H1 locs1 u Q (F0 m (pc + 3) ls (v.toList ++ rest))) : kx_W p l e fr lo c0 s m args below meth c H locs σ Q (F0 m pc ls (As.reverse ++ rest)) :=
  kx_call C (va_runS (As := As) (rest := rest) F hM (va_cwS n F.2.2.2.2 hT rfl rfl rfl hd hR) ⟨kx_blind, fun U hU hW9 => ⟨rfl, kx_pre C U hU hW9⟩⟩ rfl hn hsz rfl (lv_room hW) hdg (kx_room C)) kk
/-- a String's method: nothing changes -/
theorem kx_keep (C : kx_X G c0 s H locs σ) {H1 : Heap} {locs1 : List Loc} (hk : ∀ q : Nat, q < H.size → ¬ False → H1[q]? = H[q]?) (hS1 : va_S (kx_A G) s.heap H1 locs1) : kx_X G c0 s H1 locs1 σ := by
  obtain ⟨L, hL, hP, hD⟩ := C.2.2.2.2
  exact ⟨C.1, C.2.1, C.2.2.1, hS1, L, hL, hP.kept (fun k q hq => hk q.1 (hP k q hq).lt (fun z => z)), hD⟩
/-- the ends -/
theorem kx_iret {σ0 : kx_S} {v : Int32} {P : Int32 → kx_S → Prop} (F : CallFix p m c cc nL s args kt_ own) (C : kx_X G (xc σ0) s H locs σ) (hr : meth.sig.returnType = some .int) (hlocks : meth.locks = false) (h : P v σ) (hdg : decode cc pc = .ok (.ireturn, 1)) : kx_W p l e fr lo (xc σ0) s m args below meth c H locs σ (MQ below (kx_Q G σ0 (kx_ri P)) args s (kx_N - xc σ0) (600 * (kx_N - xc σ0)) (kx_A G)) (F0 m pc ls [.int v]) := by
  refine kx_learn (fun hg => ?_)
  have h1 := C.2.1.2
  refine W.widen (k := kx_N - xc σ0) (n := 600 * (kx_N - xc σ0)) (by omega) (by omega) ?_
  exact W.iret (v := v) F.1 F.2.1 hr (fun t ht _ => kx_end ⟨v, rfl, h⟩ C hg ht _) C.2.2.2.1.2.2 hdg hlocks
theorem kx_zret {σ0 : kx_S} {v : Int32} {P : Int32 → kx_S → Prop} (F : CallFix p m c cc nL s args kt_ own) (C : kx_X G (xc σ0) s H locs σ) (hr : meth.sig.returnType = some .boolean) (hlocks : meth.locks = false) (hz : narrow .boolean (.int v) = .int v) (h : P v σ) (hdg : decode cc pc = .ok (.ireturn, 1)) : kx_W p l e fr lo (xc σ0) s m args below meth c H locs σ (MQ below (kx_Q G σ0 (kx_ri P)) args s (kx_N - xc σ0) (600 * (kx_N - xc σ0)) (kx_A G)) (F0 m pc ls [.int v]) := by
  refine kx_learn (fun hg => ?_)
  have h1 := C.2.1.2
  refine W.widen (k := kx_N - xc σ0) (n := 600 * (kx_N - xc σ0)) (by omega) (by omega) ?_
  exact W.zret (v := v) F.1 F.2.1 hr hz (fun t ht _ => kx_end ⟨v, rfl, h⟩ C hg ht _) C.2.2.2.1.2.2 hdg hlocks
theorem kx_lret {σ0 : kx_S} {v : Int64} {P : Int64 → kx_S → Prop} (F : CallFix p m c cc nL s args kt_ own) (C : kx_X G (xc σ0) s H locs σ) (hr : meth.sig.returnType = some .long) (hlocks : meth.locks = false) (h : P v σ) (hdg : decode cc pc = .ok (.lreturn, 1)) : kx_W p l e fr lo (xc σ0) s m args below meth c H locs σ (MQ below (kx_Q G σ0 (kx_rl P)) args s (kx_N - xc σ0) (600 * (kx_N - xc σ0)) (kx_A G)) (F0 m pc ls [.long v]) := by
  refine kx_learn (fun hg => ?_)
  have h1 := C.2.1.2
  refine W.widen (k := kx_N - xc σ0) (n := 600 * (kx_N - xc σ0)) (by omega) (by omega) ?_
  exact W.lret (v := v) F.1 F.2.1 hr (fun t ht _ => kx_end ⟨v, rfl, h⟩ C hg ht _) C.2.2.2.1.2.2 hdg hlocks
theorem kx_vret {σ0 : kx_S} {P : kx_S → Prop} (F : CallFix p m c cc nL s args kt_ own) (C : kx_X G (xc σ0) s H locs σ) (hr : meth.sig.returnType = none) (hlocks : meth.locks = false) (h : P σ) (hdg : decode cc pc = .ok (.return_, 1)) : kx_W p l e fr lo (xc σ0) s m args below meth c H locs σ (MQ below (kx_Q G σ0 (kx_rv P)) args s (kx_N - xc σ0) (600 * (kx_N - xc σ0)) (kx_A G)) (F0 m pc ls []) := by
  refine kx_learn (fun hg => ?_)
  have h1 := C.2.1.2
  refine W.widen (k := kx_N - xc σ0) (n := 600 * (kx_N - xc σ0)) (by omega) (by omega) ?_
  exact W.vret F.1 F.2.1 hr (fun t ht _ => kx_end ⟨rfl, h⟩ C hg ht _) C.2.2.2.1.2.2 hdg hlocks
theorem kx_aret {σ0 : kx_S} {v : Nat} {P : Nat → kx_S → Prop} {rt : FieldType} (F : CallFix p m c cc nL s args kt_ own) (C : kx_X G (xc σ0) s H locs σ) (hr : meth.sig.returnType = some rt) (hrt : (∃ n, rt = .object n) ∨ ∃ t, rt = .array t) (hlocks : meth.locks = false) (h : P v σ) (hdg : decode cc pc = .ok (.areturn, 1)) : kx_W p l e fr lo (xc σ0) s m args below meth c H locs σ (MQ below (kx_Q G σ0 (kx_ra P)) args s (kx_N - xc σ0) (600 * (kx_N - xc σ0)) (kx_A G)) (F0 m pc ls [.ref v]) := by
  refine kx_learn (fun hg => ?_)
  have h1 := C.2.1.2
  refine W.widen (k := kx_N - xc σ0) (n := 600 * (kx_N - xc σ0)) (by omega) (by omega) ?_
  exact W.aret (v := .ref v) F.1 F.2.1 hr hrt (Or.inr ⟨_, rfl⟩) (fun t ht _ => kx_end ⟨v, rfl, h⟩ C hg ht _) C.2.2.2.1.2.2 hdg hlocks
theorem kx_qret {σ0 : kx_S} {v : Option Nat} {P : Option Nat → kx_S → Prop} {rt : FieldType} (F : CallFix p m c cc nL s args kt_ own) (C : kx_X G (xc σ0) s H locs σ) (hr : meth.sig.returnType = some rt) (hrt : (∃ n, rt = .object n) ∨ ∃ t, rt = .array t) (hlocks : meth.locks = false) (h : P v σ) (hdg : decode cc pc = .ok (.areturn, 1)) : kx_W p l e fr lo (xc σ0) s m args below meth c H locs σ (MQ below (kx_Q G σ0 (kx_rq P)) args s (kx_N - xc σ0) (600 * (kx_N - xc σ0)) (kx_A G)) (F0 m pc ls [va_rf v]) := by
  refine kx_learn (fun hg => ?_)
  have h1 := C.2.1.2
  refine W.widen (k := kx_N - xc σ0) (n := 600 * (kx_N - xc σ0)) (by omega) (by omega) ?_
  exact W.aret (v := va_rf v) F.1 F.2.1 hr hrt (va_rf_or v) (fun t ht _ => kx_end ⟨v, rfl, h⟩ C hg ht _) C.2.2.2.1.2.2 hdg hlocks
end

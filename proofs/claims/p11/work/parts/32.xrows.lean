/-! an instruction, a row: over the class's world -/
section
variable {p : Program} {l : Launch} {e : Env} {fr lo c0 : Nat} {s : State} {m : MethodId} {args : Array Value} {below : List Frame} {meth : Method} {c : Code} {H : Heap} {locs : List Loc} {Q : State → Prop}
variable {cc : ByteArray} {pc nL : Nat} {ls : Array Slot} {rest : List Value} {G : kx_G} {σ τ : kx_S} {own : String}
theorem kx_get {ci k N index : Nat} {ref Cn : String} {T : u_T} {fs : List Value} {a : Nat} {v : Value} (F : CallFix p m c cc nL s args kt_ own) (C : kx_X G c0 s H locs σ) (ha : xt σ a ≠ 0) (he : kx_e G σ a = .inr (ci, fs)) (hin : ∀ w ∈ u_ws Cn T N, w ∈ kt_) (hc : vwCl[ci]? = some (Cn, T, N)) (hk : k < N) (hlink : Cond.fieldLink own index ref (T k).2.1 (T k).2.2.1 ∈ kt_)
    (hsame : ∀ x, s.fieldFound? (T k).1 (T k).2.1 (T k).2.2.1 = some x → s.fieldFound? ref (T k).2.1 (T k).2.2.1 = some x) (hv : fs[k]? = some v) (hdg : decode cc pc = .ok (.getfield index, 3)) (kk : kx_W p l e fr lo c0 s m args below meth c H locs σ Q (F0 m (pc + 3) ls (v :: rest))) : kx_W p l e fr lo c0 s m args below meth c H locs σ Q (F0 m pc ls (.ref a :: rest)) := by
  obtain ⟨L, hL, hP, hD⟩ := C.2.2.2.2
  obtain ⟨j, hj⟩ := va_pl_get (X := []) (f := kx_e G σ) (hL a ha)
  rw [he] at hj
  exact va_get F.1 F.2.1 F.2.2.2.2 hin F.2.2.2.1 C.2.2.1.1 hP j hj hc k hk (F.2.2.2.2 _ hlink) hsame hv hdg kk
/-- a cell of the pool has changed -/
theorem kx_chg {L : List Nat} {a j : Nat} {E : va_E} {H1 : Heap} {locs1 : List Loc} (C : kx_X G c0 s H locs σ) (hL : ∀ a, xt σ a ≠ 0 → a ∈ L) (hD : va_D (kx_A G) (va_pl L (kx_e G σ))) (ha : xt σ a ≠ 0) (hj : ([] ++ va_pl L (kx_e G σ))[j]? = some (a, kx_e G σ a)) (hup : ∀ b, va_up (kx_e G σ) a E b = kx_e G τ b) (ht : ∀ b, xt τ b ≠ 0 → xt σ b ≠ 0) (hcc : xc τ = xc σ) (hzz : xz τ = xz σ)
    (hP1 : va_P G.1 vwCl ((va_pl L (kx_e G σ)).set j (a, E)) H1) (hD1 : va_D (kx_A G) ((va_pl L (kx_e G σ)).set j (a, E))) (hS1 : va_S (kx_A G) s.heap H1 locs1) : kx_X G c0 s H1 locs1 τ := by
  have e1 : (va_pl L (kx_e G σ)).set j (a, E) = va_pl L (kx_e G τ) := (va_pl_set (X := []) (e := E) hD (hL a ha) hj).trans (va_pl_congr hup)
  rw [e1] at hP1 hD1
  exact ⟨by rw [hcc]; exact C.1, ⟨by rw [hzz]; exact C.2.1.1, by rw [hcc]; exact C.2.1.2⟩, C.2.2.1, hS1, L, fun b hb => hL b (ht b hb), hP1, hD1⟩
theorem kx_put {ci k N index : Nat} {ref Cn : String} {T : u_T} {fs : List Value} {a : Nat} {v : Value} {ty : FieldType} {ty0 : Nat → FieldType} (F : CallFix p m c cc nL s args kt_ own) (C : kx_X G c0 s H locs σ) (ha : xt σ a ≠ 0) (he : kx_e G σ a = .inr (ci, fs)) (hin : ∀ w ∈ u_ws Cn T N, w ∈ kt_) (hty : ∀ k, k < N → parseFieldDescriptor (T k).2.2.1 = some (ty0 k)) (hnm : ∀ a, a < N → ∀ b, b < N → a ≠ b → (T a).2.1 ≠ (T b).2.1) (hc : vwCl[ci]? = some (Cn, T, N)) (hk : k < N) (hlink : Cond.fieldLink own index ref (T k).2.1 (T k).2.2.1 ∈ kt_)
    (hsame : ∀ x, s.fieldFound? (T k).1 (T k).2.1 (T k).2.2.1 = some x → s.fieldFound? ref (T k).2.1 (T k).2.2.1 = some x) (hfin : (T k).2.2.2 = false) (hd : parseFieldDescriptor (T k).2.2.1 = some ty) (hn : narrow ty v = v) (hfit : fits ty v = true) (hl : k < fs.length)
    (hup : ∀ b, va_up (kx_e G σ) a (.inr (ci, fs.set k v)) b = kx_e G τ b) (ht : ∀ b, xt τ b ≠ 0 → xt σ b ≠ 0) (hcc : xc τ = xc σ) (hzz : xz τ = xz σ) (hdg : decode cc pc = .ok (.putfield index, 3))
    (kk : ∀ (H1 : Heap) (locs1 : List Loc), kx_X G c0 s H1 locs1 τ → kx_W p l e fr lo c0 s m args below meth c H1 locs1 τ Q (F0 m (pc + 3) ls rest)) : kx_W p l e fr lo c0 s m args below meth c H locs σ Q (F0 m pc ls (v :: .ref a :: rest)) := by
  obtain ⟨L, hL, hP, hD⟩ := C.2.2.2.2
  obtain ⟨j, hj⟩ := va_pl_get (X := []) (f := kx_e G σ) (hL a ha)
  have hj0 := hj
  rw [he] at hj
  refine va_put F.1 F.2.1 F.2.2.2.2 hin ty0 hty hnm F.2.2.2.1 C.2.2.1.1 hP hD C.2.2.2.1 j hj hc k hk (F.2.2.2.2 _ hlink) hsame hfin hd hn hfit hl hdg (fun H1 locs1 hP1 hD1 hS1 => ?_)
  have k9 := kk H1 locs1 (kx_chg C hL hD ha hj0 hup ht hcc hzz hP1 hD1 hS1)
  rw [kx_W, hcc] at k9
  exact k9
theorem kx_putF {ci k N index : Nat} {ref Cn : String} {T : u_T} {fs : List Value} {a : Nat} {v : Value} {ty : FieldType} {ty0 : Nat → FieldType} (F : CallFix p m c cc nL s args kt_ own) (C : kx_X G c0 s H locs σ) (ha : xt σ a ≠ 0) (he : kx_e G σ a = .inr (ci, fs)) (hin : ∀ w ∈ u_ws Cn T N, w ∈ kt_) (hty : ∀ k, k < N → parseFieldDescriptor (T k).2.2.1 = some (ty0 k)) (hnm : ∀ a, a < N → ∀ b, b < N → a ≠ b → (T a).2.1 ≠ (T b).2.1) (hc : vwCl[ci]? = some (Cn, T, N)) (hk : k < N) (hlink : Cond.fieldLink own index ref (T k).2.1 (T k).2.2.1 ∈ kt_)
    (hsame : ∀ x, s.fieldFound? (T k).1 (T k).2.1 (T k).2.2.1 = some x → s.fieldFound? ref (T k).2.1 (T k).2.2.1 = some x) (hfin : (T k).2.2.2 = true) (hini : meth.name = "<init>") (hdecl : (T k).1 = own) (hd : parseFieldDescriptor (T k).2.2.1 = some ty) (hn : narrow ty v = v) (hfit : fits ty v = true) (hl : k < fs.length)
    (hup : ∀ b, va_up (kx_e G σ) a (.inr (ci, fs.set k v)) b = kx_e G τ b) (ht : ∀ b, xt τ b ≠ 0 → xt σ b ≠ 0) (hcc : xc τ = xc σ) (hzz : xz τ = xz σ) (hdg : decode cc pc = .ok (.putfield index, 3))
    (kk : ∀ (H1 : Heap) (locs1 : List Loc), kx_X G c0 s H1 locs1 τ → kx_W p l e fr lo c0 s m args below meth c H1 locs1 τ Q (F0 m (pc + 3) ls rest)) : kx_W p l e fr lo c0 s m args below meth c H locs σ Q (F0 m pc ls (v :: .ref a :: rest)) := by
  obtain ⟨L, hL, hP, hD⟩ := C.2.2.2.2
  obtain ⟨j, hj⟩ := va_pl_get (X := []) (f := kx_e G σ) (hL a ha)
  have hj0 := hj
  rw [he] at hj
  refine va_putF F.1 F.2.1 F.2.2.2.2 hin ty0 hty hnm F.2.2.2.1 C.2.2.1.1 hP hD C.2.2.2.1 j hj hc k hk (F.2.2.2.2 _ hlink) hsame hfin hini hdecl hd hn hfit hl hdg (fun H1 locs1 hP1 hD1 hS1 => ?_)
  have k9 := kk H1 locs1 (kx_chg C hL hD ha hj0 hup ht hcc hzz hP1 hD1 hS1)
  rw [kx_W, hcc] at k9
  exact k9
/-- a cell of the pool is new -/
theorem kx_add {L : List Nat} {q : Nat} {E : va_E} {H1 : Heap} (C : kx_X G c0 s H locs σ) (hL : ∀ a, xt σ a ≠ 0 → a ∈ L) (hup : ∀ b, va_up (kx_e G σ) q E b = kx_e G τ b) (ht : ∀ b, b ≠ q → xt τ b = xt σ b) (hcc : xc τ = xc σ + 1) (hzz : xz τ = xz σ) (hN : xc σ < kx_N)
    (hP1 : va_P G.1 vwCl (va_pl L (kx_e G σ) ++ [(q, E)]) H1) (hD1 : va_D (kx_A G) (va_pl L (kx_e G σ) ++ [(q, E)])) (hS1 : va_S (kx_A G) s.heap H1 locs) : q ∉ L ∧ kx_X G c0 s H1 locs τ := by
  have hq : q ∉ L := by
    intro h
    obtain ⟨i, hi⟩ := List.getElem?_of_mem h
    have hil : i < L.length := (List.getElem?_eq_some_iff.mp hi).1
    have h1 : (va_pl L (kx_e G σ) ++ [(q, E)])[i]? = some (q, kx_e G σ q) := by
      rw [List.getElem?_append_left (by simp [va_pl]; exact hil)]
      simp [va_pl, hi]
    have h2 : (va_pl L (kx_e G σ) ++ [(q, E)])[L.length]? = some (q, E) := by
      rw [List.getElem?_append_right (by simp [va_pl])]
      simp [va_pl]
    have := hD1.1 i L.length _ _ h1 h2 rfl
    omega
  have e1 : va_pl L (kx_e G σ) ++ [(q, E)] = va_pl (L ++ [q]) (kx_e G τ) := (va_pl_push hq).trans (va_pl_congr hup)
  rw [e1] at hP1 hD1
  refine ⟨hq, by rw [hcc]; have := C.1; omega, ⟨by rw [hzz]; exact C.2.1.1, by rw [hcc]; omega⟩, C.2.2.1, hS1, L ++ [q], fun b hb => ?_, hP1, hD1⟩
  by_cases hbq : b = q
  · rw [hbq]; simp
  · rw [ht b hbq] at hb
    exact List.mem_append_left _ (hL b hb)
theorem kx_new {ci N index tag : Nat} {Cn : String} {T : u_T} {fs : List Value} {ty : Nat → FieldType} (F : CallFix p m c cc nL s args kt_ own) (C : kx_X G c0 s H locs σ) (hN : xc σ < kx_N) (hin : ∀ w ∈ u_ws Cn T N, w ∈ kt_) (hty : ∀ k, k < N → parseFieldDescriptor (T k).2.2.1 = some (ty k)) (hcl : Cond.classLink own index Cn ∈ kt_) (hinst : Cond.instantiable Cn N ∈ kt_) (hini : Cond.initialized Cn ∈ kt_) (hc : vwCl[ci]? = some (Cn, T, N)) (hfs : ∀ j, j < N → defaultValue (ty j) = vp_V fs j) (hsz : N ≤ 600) (he : ∀ q, kx_e G (xnew σ q tag) q = .inr (ci, fs)) (hdg : decode cc pc = .ok (.new index, 3))
    (kk : ∀ (q : Nat) (H1 : Heap), xt σ q = 0 → q ≠ kx_z G → kx_X G c0 s H1 locs (xnew σ q tag) → kx_W p l e fr lo c0 s m args below meth c H1 locs (xnew σ q tag) Q (F0 m (pc + 3) ls (.ref q :: rest))) : kx_W p l e fr lo c0 s m args below meth c H locs σ Q (F0 m pc ls rest) := by
  obtain ⟨L, hL, hP, hD⟩ := C.2.2.2.2
  have h1 := C.1
  refine va_new F.1 F.2.1 F.2.2.2.2 hin ty hty F.2.2.2.1 (F.2.2.2.2 _ hcl) (F.2.2.2.2 _ hinst) (F.2.2.2.2 _ hini) C.2.2.1.1 hP hD C.2.2.2.1 C.2.2.1.2.1 hc hfs (by show _ ≤ kx_N - c0; omega) (by show _ ≤ 600 * (kx_N - c0); omega) hdg (fun q H1 hP1 hD1 hS1 => ?_)
  have hup : ∀ b, va_up (kx_e G σ) q (.inr (ci, fs)) b = kx_e G (xnew σ q tag) b := by
    intro b
    by_cases hb : b = q
    · rw [hb, va_up_self, he q]
    · rw [va_up_ne _ _ hb, kx_nnew hb]
  obtain ⟨hq, X1⟩ := kx_add C hL hup (fun b hb => va_up_ne _ _ hb) rfl rfl hN hP1 hD1 hS1
  have h0 : xt σ q = 0 := by
    by_cases h : xt σ q = 0
    · exact h
    · exact absurd (hL q h) hq
  have hAq : kx_A G q := hD1.2 L.length (q, .inr (ci, fs)) (by rw [List.getElem?_append_right (by simp [va_pl])]; simp [va_pl])
  have k9 := kk q H1 h0 (fun h => C.2.2.1.2.2.1.2.1.out (by rw [← h]; exact hAq)) X1
  refine W.widen ?_ ?_ k9
  · show _ ≤ xc σ + 1 - c0; omega
  · show _ ≤ 600 * (xc σ + 1 - c0); omega
end

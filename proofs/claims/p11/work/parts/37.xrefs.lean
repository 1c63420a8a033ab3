theorem ux_118 : Cond.instanceMethod yJ0_length_8abf5 ∈ kt_ := kt_m (kt_t3 _ (List.mem_of_getElem? (i := 196) (by decide +kernel))) (by decide +kernel)
theorem ux_119 : Cond.selects RJ0 yJ0_length_8abf5 yJ0_length_8abf5 ∈ kt_ := kt_m (kt_t3 _ (List.mem_of_getElem? (i := 197) (by decide +kernel))) (by decide +kernel)
theorem ux_120 : Cond.initialized RJ0 ∈ kt_ := kt_m (kt_t1 _ (List.mem_of_getElem? (i := 25) (by decide +kernel))) (by decide +kernel)
theorem ux_121 : Cond.code yJ0_length_8abf5 cJ0_length_8abf5 1 (some .int) ∈ kt_ := kt_m (kt_t3 _ (List.mem_of_getElem? (i := 198) (by decide +kernel))) (by decide +kernel)
theorem ux_122 : Cond.instanceMethod yJ0_charAt_5068e ∈ kt_ := kt_m (kt_t3 _ (List.mem_of_getElem? (i := 206) (by decide +kernel))) (by decide +kernel)
theorem ux_123 : Cond.selects RJ0 yJ0_charAt_5068e yJ0_charAt_5068e ∈ kt_ := kt_m (kt_t3 _ (List.mem_of_getElem? (i := 207) (by decide +kernel))) (by decide +kernel)
theorem ux_124 : Cond.code yJ0_charAt_5068e cJ0_charAt_5068e 2 (some .char) ∈ kt_ := kt_m (kt_t3 _ (List.mem_of_getElem? (i := 208) (by decide +kernel))) (by decide +kernel)
/-! references that may be null; the words' strings -/
section
variable {p : Program} {l : Launch} {e : Env} {R : Room} {s : State} {m : MethodId} {args : Array Value} {below : List Frame} {meth : Method} {c : Code} {H : Heap} {locs : List Loc} {cells slots : Nat} {Q : State → Prop}
variable {cc : ByteArray} {pc : Nat} {ls : Array Slot} {rest : List Value}
theorem xq_aload_n {k : Fin 4} {i : Nat} {x : Option Nat} (hexec : p.tables.exec = Jvm.exec) (hb : c.code = cc) (hdg : decode cc pc = .ok (.aload_n k, 1)) (hi : (k : Nat) = i) (hl : ls[i]? = some (.val (va_rf x))) (kk : W p l e R s m args below meth c H locs cells slots Q (F0 m (pc + 1) ls (va_rf x :: rest))) : W p l e R s m args below meth c H locs cells slots Q (F0 m pc ls rest) := by
  cases x with
  | none => exact lv_aload_nN hexec hb hdg hi hl kk
  | some a => exact lv_aload_n hexec hb hdg hi hl kk
theorem xq_aload {i : Nat} {x : Option Nat} (hexec : p.tables.exec = Jvm.exec) (hb : c.code = cc) (hdg : decode cc pc = .ok (.aload i, 2)) (hl : ls[i]? = some (.val (va_rf x))) (kk : W p l e R s m args below meth c H locs cells slots Q (F0 m (pc + 2) ls (va_rf x :: rest))) : W p l e R s m args below meth c H locs cells slots Q (F0 m pc ls rest) := by
  cases x with
  | none => exact lv_aloadN hexec hb hdg hl kk
  | some a => exact lv_aload hexec hb hdg hl kk
theorem xq_astore_n {k : Fin 4} {i nL : Nat} {x : Option Nat} {lv lv' : List (Nat × Value)} (hexec : p.tables.exec = Jvm.exec) (hb : c.code = cc) (hdg : decode cc pc = .ok (.astore_n k, 1)) (hi : (k : Nat) = i) (h : lv_has ls nL lv) (hn : i < nL) (hl : (i, va_rf x) :: lv.filter (fun q => !(q.1 == i) && !(q.1 + 1 == i && q.2.category == 2)) = lv')
    (kk : ∀ ls' : Array Slot, lv_has ls' nL lv' → W p l e R s m args below meth c H locs cells slots Q (F0 m (pc + 1) ls' rest)) : W p l e R s m args below meth c H locs cells slots Q (F0 m pc ls (va_rf x :: rest)) := by
  cases x with
  | none => exact lv_astore_nN hexec hb hdg hi h hn hl kk
  | some a => exact lv_astore_n hexec hb hdg hi h hn hl kk
theorem xq_astore {i nL : Nat} {x : Option Nat} {lv lv' : List (Nat × Value)} (hexec : p.tables.exec = Jvm.exec) (hb : c.code = cc) (hdg : decode cc pc = .ok (.astore i, 2)) (h : lv_has ls nL lv) (hn : i < nL) (hl : (i, va_rf x) :: lv.filter (fun q => !(q.1 == i) && !(q.1 + 1 == i && q.2.category == 2)) = lv')
    (kk : ∀ ls' : Array Slot, lv_has ls' nL lv' → W p l e R s m args below meth c H locs cells slots Q (F0 m (pc + 2) ls' rest)) : W p l e R s m args below meth c H locs cells slots Q (F0 m pc ls (va_rf x :: rest)) := by
  cases x with
  | none => exact lv_astoreN hexec hb hdg h hn hl kk
  | some a => exact lv_astore hexec hb hdg h hn hl kk
theorem xq_ifnull {x : Option Nat} {off : Int} {tgt : Nat} (hexec : p.tables.exec = Jvm.exec) (hb : c.code = cc) (hdg : decode cc pc = .ok (.ifnull off, 3)) (ht : (pc : Int) + off = (tgt : Int)) (kt : x = none → W p l e R s m args below meth c H locs cells slots Q (F0 m tgt ls rest)) (kf : ∀ a : Nat, x = some a → W p l e R s m args below meth c H locs cells slots Q (F0 m (pc + 3) ls rest)) : W p l e R s m args below meth c H locs cells slots Q (F0 m pc ls (va_rf x :: rest)) := by
  cases x with
  | none => exact lv_ifnullN hexec hb hdg ht (kt rfl)
  | some a => exact lv_ifnull hexec hb hdg (kf a rfl)
theorem xq_ifnonnull {x : Option Nat} {off : Int} {tgt : Nat} (hexec : p.tables.exec = Jvm.exec) (hb : c.code = cc) (hdg : decode cc pc = .ok (.ifnonnull off, 3)) (ht : (pc : Int) + off = (tgt : Int)) (kt : ∀ a : Nat, x = some a → W p l e R s m args below meth c H locs cells slots Q (F0 m tgt ls rest)) (kf : x = none → W p l e R s m args below meth c H locs cells slots Q (F0 m (pc + 3) ls rest)) : W p l e R s m args below meth c H locs cells slots Q (F0 m pc ls (va_rf x :: rest)) := by
  cases x with
  | none => exact lv_ifnonnullN hexec hb hdg (kf rfl)
  | some a => exact lv_ifnonnull hexec hb hdg ht (kt a rfl)
theorem xq_nn {x : Option Nat} {a : Nat} (h : x = some a) (k : W p l e R s m args below meth c H locs cells slots Q (F0 m pc ls (.ref a :: rest))) : W p l e R s m args below meth c H locs cells slots Q (F0 m pc ls (va_rf x :: rest)) := by rw [h]; exact k
theorem xq_top {x : Option Nat} (k : ∀ y : Option Nat, y = x → W p l e R s m args below meth c H locs cells slots Q (F0 m pc ls (va_rf y :: rest))) : W p l e R s m args below meth c H locs cells slots Q (F0 m pc ls (va_rf x :: rest)) := k x rfl
theorem xq_top0 (k : W p l e R s m args below meth c H locs cells slots Q (F0 m pc ls (va_rf none :: rest))) : W p l e R s m args below meth c H locs cells slots Q (F0 m pc ls (.null :: rest)) := k
end
section
variable {p : Program} {l : Launch} {e : Env} {fr lo c0 : Nat} {s : State} {m : MethodId} {args : Array Value} {below : List Frame} {meth : Method} {c : Code} {H : Heap} {locs : List Loc} {Q : State → Prop}
variable {cc : ByteArray} {pc nL index : Nat} {ls : Array Slot} {rest : List Value} {G : kx_G} {σ : kx_S} {own : String}
theorem xz_of (C : kx_X G c0 s H locs σ) : xz σ = kx_z G := C.2.1.1
theorem kx_castI {a : Nat} (F : CallFix p m c cc nL s args kt_ own) (C : kx_X G c0 s H locs σ) (ha : xt σ a = 20) (hw : Cond.classLink own index "[I" ∈ kt_) (hdg : decode cc pc = .ok (.checkcast index, 3)) (kk : kx_W p l e fr lo c0 s m args below meth c H locs σ Q (F0 m (pc + 3) ls (.ref a :: rest))) : kx_W p l e fr lo c0 s m args below meth c H locs σ Q (F0 m pc ls (.ref a :: rest)) := by
  have h := kx_at C (a := a) (by rw [ha]; decide)
  rw [kx_e20 ha] at h
  exact va_castE F.1 F.2.1 F.2.2.2.1 (F.2.2.2.2 _ hw) ⟨_, h, rfl, (C.2.2.1.1.2 0 _ rfl).2⟩ hdg kk
theorem kx_newl {n : Int32} (F : CallFix p m c cc nL s args kt_ own) (C : kx_X G c0 s H locs σ) (hw : Cond.arrayClass .long ∈ kt_) (hN : xc σ < kx_N) (hn : ¬ n < 0) (hm : n.toNatClampNeg ≤ 600) (hdg : decode cc pc = .ok (.newarray .long, 2))
    (kk : ∀ (q : Nat) (H1 : Heap), xt σ q = 0 → q ≠ kx_z G → kx_X G c0 s H1 locs (xnewA σ q 21 n.toNatClampNeg) → kx_W p l e fr lo c0 s m args below meth c H1 locs (xnewA σ q 21 n.toNatClampNeg) Q (F0 m (pc + 2) ls (.ref q :: rest))) : kx_W p l e fr lo c0 s m args below meth c H locs σ Q (F0 m pc ls (.int n :: rest)) := by
  obtain ⟨L, hL, hP, hD⟩ := C.2.2.2.2
  have h1 := C.1
  refine va_newa (atype := .long) (ty := .long) (N' := n.toNatClampNeg) (n := n) (a0 := (n.toNatClampNeg, .inr (.inl (fun _ => 0)))) F.1 F.2.1 (F.2.2.2.2 _ hw) rfl C.2.2.1.1 hP hD C.2.2.2.1 C.2.2.1.2.1 (fun _ => rfl) hn rfl (by show _ * 8 ≤ _; omega) (by show _ ≤ kx_N - c0; omega) (by show _ ≤ 600 * (kx_N - c0); omega) hdg (fun q cA H1 hK1 hP1 hD1 hS1 => ?_)
  have hcA : cA = G.2.2.1 := Option.some.inj ((hK1.2 3 _ rfl).2.symm.trans (hK1.2 1 _ rfl).2)
  subst hcA
  have hup : ∀ b, va_up (kx_e G σ) q (.inl (G.2.2.1, n.toNatClampNeg, .inr (.inl (fun _ => 0)))) b = kx_e G (xnewA σ q 21 n.toNatClampNeg) b := by
    intro b
    by_cases hb : b = q
    · rw [hb, va_up_self, kx_e21 (show xt (xnewA σ q 21 n.toNatClampNeg) q = 21 from va_up_self _ _ _), show xal (xnewA σ q 21 n.toNatClampNeg) q = (fun _ => 0) from va_up_self (σ.2.2.2.2.2.2.1) q (fun _ => 0), xnn_self]
    · rw [va_up_ne _ _ hb, kx_nnewA hb]
  obtain ⟨hq, X1⟩ := kx_add C hL hup (fun b hb => va_up_ne _ _ hb) rfl rfl hN hP1 hD1 hS1
  have h0 : xt σ q = 0 := by
    by_cases h : xt σ q = 0
    · exact h
    · exact absurd (hL q h) hq
  have hAq : kx_A G q := hD1.2 L.length _ (by rw [List.getElem?_append_right (by simp [va_pl])]; simp [va_pl]; exact rfl)
  have k9 := kk q H1 h0 (fun h => C.2.2.1.2.2.1.2.1.out (by rw [← h]; exact hAq)) X1
  refine W.widen ?_ ?_ k9
  · show _ ≤ xc σ + 1 - c0; omega
  · show _ ≤ 600 * (xc σ + 1 - c0); omega
theorem kx_ldcW {i : Nat} {q : Nat × String} (F : CallFix p m c cc nL s args kt_ RX5) (C : kx_X G c0 s H locs σ) (hq : kx_wp[i]? = some q) (hdg : decode cc pc = .ok (.ldc q.1, 2)) (kk : kx_W p l e fr lo c0 s m args below meth c H locs σ Q (F0 m (pc + 2) ls (.ref (G.2.2.2.2.2.1 i) :: rest))) : kx_W p l e fr lo c0 s m args below meth c H locs σ Q (F0 m pc ls rest) :=
  va_ldcS F.1 F.2.1 F.2.2.2.1 (C.2.2.1.2.2.2.1.2.1 i q hq) hdg kk
theorem kx_slen {i : Nat} (F : CallFix p m c cc nL s args kt_ RX10) (C : kx_X G c0 s H locs σ) (hi : i < 12) (h1 : 2 ≤ fr) (h2 : 8 + (1 + 11) + 20 ≤ lo) (hsz : ls.size = nL) (hW : (rest.map fun v => v.category).sum ≤ 8) (hw : Cond.methodLink RX10 index yJ0_length_8abf5 ∈ kt_) (hdg : decode cc pc = .ok (.invokevirtual index, 3)) (kk : ∀ (H1 : Heap) (locs1 : List Loc), kx_X G c0 s H1 locs1 σ → kx_W p l e fr lo c0 s m args below meth c H1 locs1 σ Q (F0 m (pc + 3) ls (.int (nI (ks_len.getD i 0)) :: rest))) : kx_W p l e fr lo c0 s m args below meth c H locs σ Q (F0 m pc ls (.ref (G.2.2.2.2.2.1 i) :: rest)) := by
  have g1 := C.1
  have g2 := C.2.1.2
  exact va_calli (va_runV (As := []) (rest := rest) F (hs_length l hi) (cwV 0 F.2.2.2.2 (kt_V hw ux_118 ux_119 ux_120 ux_121) rfl rfl rfl (by decide +kernel) ⟨h1, h2⟩) ⟨ks_blind, ks_recv C.2.2.1.2.2.2.2 C.2.2.2.1 hi, fun U hU hW9 => ⟨rfl, ks_pre C.2.2.1.2.2.2.2 C.2.2.2.1 U hU hW9⟩⟩ rfl rfl hsz rfl (lv_room hW) hdg ⟨by show _ ≤ kx_N - c0; omega, by show _ ≤ 600 * (kx_N - c0); omega⟩) C.2.2.2.1 (fun _ _ h => h.elim) (fun _ h => h.elim) (fun r u t H1 locs1 ht hvm hp _ hz hk hS1 => by subst hp; exact kk H1 locs1 (kx_keep C hk hS1))
theorem kx_schar {i : Nat} {x : Int32} (F : CallFix p m c cc nL s args kt_ RX10) (C : kx_X G c0 s H locs σ) (hi : i < 12) (hx : vp_in x (ks_len.getD i 0)) (h1 : 4 ≤ fr) (h2 : 8 + (2 + 11) + 64 ≤ lo) (hsz : ls.size = nL) (hW : (rest.map fun v => v.category).sum ≤ 8) (hw : Cond.methodLink RX10 index yJ0_charAt_5068e ∈ kt_) (hdg : decode cc pc = .ok (.invokevirtual index, 3)) (kk : ∀ (H1 : Heap) (locs1 : List Loc), kx_X G c0 s H1 locs1 σ → kx_W p l e fr lo c0 s m args below meth c H1 locs1 σ Q (F0 m (pc + 3) ls (.int ((ks_byt.getD i []).getD x.toNatClampNeg 0) :: rest))) : kx_W p l e fr lo c0 s m args below meth c H locs σ Q (F0 m pc ls (.int x :: .ref (G.2.2.2.2.2.1 i) :: rest)) := by
  have g1 := C.1
  have g2 := C.2.1.2
  exact va_calli (va_runV (As := [.int x]) (rest := rest) F (hs_char l hi hx) (cwV 1 F.2.2.2.2 (kt_V hw ux_122 ux_123 ux_120 ux_124) rfl rfl rfl (by decide +kernel) ⟨h1, h2⟩) ⟨ks_blind, ks_recv C.2.2.1.2.2.2.2 C.2.2.2.1 hi, fun U hU hW9 => ⟨rfl, ks_pre C.2.2.1.2.2.2.2 C.2.2.2.1 U hU hW9⟩⟩ rfl rfl hsz rfl (lv_room hW) hdg ⟨by show _ ≤ kx_N - c0; omega, by show _ ≤ 600 * (kx_N - c0); omega⟩) C.2.2.2.1 (fun _ _ h => h.elim) (fun _ h => h.elim) (fun r u t H1 locs1 ht hvm hp _ hz hk hS1 => by subst hp; exact kk H1 locs1 (kx_keep C hk hS1))
end

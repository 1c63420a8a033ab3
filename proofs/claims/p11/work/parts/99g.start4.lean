/-! the law from its entry -/
set_option maxRecDepth 100000 in
theorem lz_n1 : Cond.classLink RL 8 RX11 ∈ lw_tbl := by decide +kernel
set_option maxRecDepth 100000 in
theorem lz_n2 : Cond.initialized RX11 ∈ kt_ := kt_m (by decide +kernel) (by decide +kernel)
set_option maxRecDepth 100000 in
theorem lz_n3 : Cond.code yX11_init cX11_init 1 none ∈ kt_ := kt_m (by decide +kernel) (by decide +kernel)
set_option maxRecDepth 100000 in
theorem lz_n4 : Cond.instanceMethod yX11_init ∈ kt_ := kt_m (by decide +kernel) (by decide +kernel)
set_option maxRecDepth 100000 in
theorem lz_n5 : Cond.methodLink RL 81 yX11_init ∈ kt_ := kt_m (by decide +kernel) (by decide +kernel)
set_option maxRecDepth 100000 in
theorem lz_n6 : Cond.classLink RL 82 RX12 ∈ lw_tbl := by decide +kernel
set_option maxRecDepth 100000 in
theorem lz_n7 : Cond.initialized RX12 ∈ kt_ := kt_m (by decide +kernel) (by decide +kernel)
set_option maxRecDepth 100000 in
theorem lz_n8 : Cond.code yX12_init cX12_init 1 none ∈ kt_ := kt_m (by decide +kernel) (by decide +kernel)
set_option maxRecDepth 100000 in
theorem lz_n9 : Cond.instanceMethod yX12_init ∈ kt_ := kt_m (by decide +kernel) (by decide +kernel)
set_option maxRecDepth 100000 in
theorem lz_n10 : Cond.methodLink RL 84 yX12_init ∈ kt_ := kt_m (by decide +kernel) (by decide +kernel)
set_option maxRecDepth 100000 in
theorem lz_n11 : Cond.arrayClass .long ∈ kt_ := kt_m (by decide +kernel) (by decide +kernel)
abbrev lz_f : List Value := [.null, .int 0, .int 0, .int 0, .int 0, .int 0, .int 0, .int 0, .int 0, .int 0, .int 0, .long 0, .long 0, .null, .null, .null, .null, .null, .null, .null, .null, .null, .null, .null, .null, .null, .null, .null, .null, .null, .null, .null, .null, .null, .null, .null, .null, .null, .null, .null, .null, .null, .null, .null, .null, .null, .null, .null, .null, .null, .null, .null, .null, .null, .null, .null, .null, .null, .null, .int 0, .int 0, .int 0, .int 0, .int 0, .int 0, .int 0, .int 0, .int 0, .int 0, .null]
abbrev lz_f0 : List Value := [.null, .null, .null, .null, .null, .null, .null, .null, .null, .int 0, .int 0, .int 0, .long 0, .long 0]
theorem lz_last {D : va_G} {cl : List vw_C} {ws : va_W} {y : Nat × va_E} {H : Heap} (hP : va_P D cl (ws ++ [y]) H) : va_P D cl [y] H := fun k x hx => hP (ws.length + k) x (by rw [List.getElem?_append_right (by omega)]; simpa using hx)
theorem lz_left {D : va_G} {cl : List vw_C} {ws w2 : va_W} {H : Heap} (hP : va_P D cl (ws ++ w2) H) : va_P D cl ws H := fun k x hx => hP k x (by rw [List.getElem?_append_left (List.getElem?_eq_some_iff.mp hx).1]; exact hx)
theorem lz_right {D : va_G} {cl : List vw_C} {ws w2 : va_W} {H : Heap} (hP : va_P D cl (ws ++ w2) H) : va_P D cl w2 H := fun k x hx => hP (ws.length + k) x (by rw [List.getElem?_append_right (by omega)]; simpa using hx)
theorem lz_leftD {A : Nat → Prop} {ws w2 : va_W} (hD : va_D A (ws ++ w2)) : va_D A ws :=
  ⟨fun i j x y hi hj h => hD.1 i j x y (by rw [List.getElem?_append_left (List.getElem?_eq_some_iff.mp hi).1]; exact hi) (by rw [List.getElem?_append_left (List.getElem?_eq_some_iff.mp hj).1]; exact hj) h, fun k x hx => hD.2 k x (by rw [List.getElem?_append_left (List.getElem?_eq_some_iff.mp hx).1]; exact hx)⟩
theorem lz_endD {A : Nat → Prop} {ws : va_W} {y : Nat × va_E} (hD : va_D A (ws ++ [y])) : A y.1 ∧ ∀ (k : Nat) (x : Nat × va_E), ws[k]? = some x → x.1 ≠ y.1 := by
  have hy : (ws ++ [y])[ws.length]? = some y := by rw [List.getElem?_append_right (Nat.le_refl _)]; simp
  refine ⟨hD.2 _ y hy, fun k x hx h => ?_⟩
  have hk := (List.getElem?_eq_some_iff.mp hx).1
  have := hD.1 k ws.length x y (by rw [List.getElem?_append_left hk]; exact hx) hy h
  omega
theorem lz_oneD {A : Nat → Prop} {y : Nat × va_E} (h : A y.1) : va_D A [y] := by
  have z : ∀ (k : Nat) (x : Nat × va_E), [y][k]? = some x → k = 0 ∧ x = y := fun k x hx => by
    have hk : k < 1 := (List.getElem?_eq_some_iff.mp hx).1
    obtain rfl : k = 0 := by omega
    cases hx
    exact ⟨rfl, rfl⟩
  exact ⟨fun i j p q hi hj _ => by rw [(z i p hi).1, (z j q hj).1], fun k x hx => by rw [(z k x hx).2]; exact h⟩
theorem lz_appD {A A1 A2 : Nat → Prop} {w1 w2 : va_W} (h1 : va_D A1 w1) (h2 : va_D A2 w2) (hn : ∀ (k : Nat) (x : Nat × va_E), w1[k]? = some x → ¬ A2 x.1) (a1 : ∀ q, A1 q → A q) (a2 : ∀ q, A2 q → A q) : va_D A (w1 ++ w2) := by
  have key : ∀ (k : Nat) (x : Nat × va_E), (w1 ++ w2)[k]? = some x → (k < w1.length ∧ w1[k]? = some x) ∨ (w1.length ≤ k ∧ w2[k - w1.length]? = some x) := fun k x hx => by
    by_cases h : k < w1.length
    · exact .inl ⟨h, by rw [List.getElem?_append_left h] at hx; exact hx⟩
    · exact .inr ⟨by omega, by rw [List.getElem?_append_right (by omega)] at hx; exact hx⟩
  refine ⟨fun i j x y hi hj hxy => ?_, fun k x hx => ?_⟩
  · rcases key i x hi with ⟨b1, b2⟩ | ⟨b1, b2⟩ <;> rcases key j y hj with ⟨d1, d2⟩ | ⟨d1, d2⟩
    · exact h1.1 i j x y b2 d2 hxy
    · exact absurd (h2.2 _ y d2) (by rw [← hxy]; exact hn i x b2)
    · exact absurd (h2.2 _ x b2) (by rw [hxy]; exact hn j y d2)
    · have := h2.1 _ _ x y b2 d2 hxy
      omega
  · rcases key k x hx with ⟨_, b2⟩ | ⟨_, b2⟩
    · exact a1 _ (h1.2 _ x b2)
    · exact a2 _ (h2.2 _ x b2)
theorem lz_pa {D : va_G} {cl : List vw_C} {w1 w2 : va_W} {H : Heap} (h1 : va_P D cl w1 H) (h2 : va_P D cl w2 H) : va_P D cl (w1 ++ w2) H := h1.app h2
theorem kx_nnewO {G : kx_G} {σ : kx_S} {a b : Nat} (h : b ≠ a) : kx_e G (xnewO σ a) b = kx_e G σ b := kx_ec (va_up_ne _ _ h) (fun _ => rfl) (fun _ => rfl) (fun _ => rfl) (va_up_ne _ _ h) (va_up_ne _ _ h) (va_up_ne _ _ h) (va_up_ne _ _ h)
theorem kx_upO {G : kx_G} {σ : kx_S} {q : Nat} : ∀ b, va_up (kx_e G σ) q (.inl (G.2.2.1, 1, .inr (.inl (fun _ => 0)))) b = kx_e G (xnewO σ q) b := by
  intro b
  by_cases hb : b = q
  · rw [hb, va_up_self, kx_e21 (show xt (xnewO σ q) q = 21 from va_up_self σ.1 q 21), show xal (xnewO σ q) q = (fun _ => 0) from va_up_self (σ.2.2.2.2.2.2.1) q (fun _ => 0), show xn (xnewO σ q) q = 1 from va_up_self σ.2.2.2.2.1 q 1]
  · rw [va_up_ne _ _ hb, kx_nnewO hb]
set_option maxHeartbeats 16000000 in
set_option maxRecDepth 100000 in
theorem lz_run {p : Program} {e : Env} {s : State} {m : MethodId} {below : List Frame} {meth : Method} {c : Code} (l : Launch) (hlt : l.stackTraces = false) {b L : Nat} {xs : Nat → Int32} (hL : L ≤ 3072) (C0 : lw_At p s m meth c b L xs) (ls : Array Slot) (hl : lv_has ls 8 [(0, .ref b)]) : W p l e room_1 s m #[Value.ref b] below meth c s.heap [] 0 0 (lw_Z below #[Value.ref b] s) (F0 m 0 ls []) := by
  obtain ⟨hx, hb, hr, hml, hown, hts0, hX, hbl, hlocks, hgv⟩ := id C0
  have hown : s.vm.findClass RL = some m.cls := hown
  have F : CallFix p m c cL_law_ 8 s #[Value.ref b] kt_ RL := ⟨hx, hb, hml, hown, fun w hw => hts0 w (List.mem_filter.mp hw).1⟩
  obtain ⟨D, ci, cl, co, aK, aV, mK, mV, e0, mi, hall⟩ := lz_begin hts0 hgv
  obtain ⟨gK, gz, gV, gX, gM, gR, gO, gs⟩ := hall (lx_A s)
  have hA : ∀ q : Nat, s.heap.size ≤ q → lx_A s q := fun q h => h
  have hS : va_S (lx_A s) s.heap s.heap [] := va_S.rf
  have hK : va_K D vwCl [] s := ⟨gK.1, fun k q h => by simp at h⟩
  have hP : va_P D vwCl [] s.heap := fun k q h => by simp at h
  have hD : va_D (lx_A s) [] := ⟨fun i j p q h => by simp at h, fun k q h => by simp at h⟩
  have hN : kx_N = 10000 := rfl
  refine va_new (ci := 12) (fs := lz_f0) (C := RX11) (T := TX11) (N := 14) F.1 F.2.1 F.2.2.2.2 kx_inX11 tyX11 tyX11_ok hown (hts0 _ lz_n1) (hts0 _ lz_i12) (F.2.2.2.2 _ lz_n2) hK hP hD hS hA rfl kx_dfX11 (Nat.le_of_ble_eq_true rfl) (Nat.le_of_ble_eq_true rfl) dL_law__0 (fun q1 H1 hP hD hS => ?_)
  refine lv_dup F.1 F.2.1 dL_law__3 rfl ?_
  refine W.widen (k := 10 + xc (lz_s q1 e0)) (n := 1000 + 600 * xc (lz_s q1 e0)) (Nat.le_of_ble_eq_true rfl) (Nat.le_of_ble_eq_true rfl) ?_
  have ew : va_pl [q1] (kx_e (lz_G D ci cl co (lx_A s) aK aV e0 mi) (lz_s q1 e0)) = [(q1, .inr (12, lz_f0))] := by
    show [(q1, kx_e _ _ q1)] = _
    rw [kx_e13 lz_s13]
    rfl
  have P0 : kx_P (lz_G D ci cl co (lx_A s) aK aV e0 mi) (lz_s q1 e0) H1 := ⟨[q1], fun a h => by rw [lz_st h]; exact List.mem_singleton.mpr rfl, by rw [ew]; exact hP, by rw [ew]; exact hD⟩
  have pre : ∀ U : State, U.heap = H1 → s.WarmedH U.vm → kx_B (lz_G D ci cl co (lx_A s) aK aV e0 mi) (lz_s q1 e0) U := fun U hU hW =>
    ⟨⟨rfl, Nat.zero_le _⟩, ⟨va_K.moved hW.alike gK, by rw [hU]; exact fun q h => Nat.le_trans hS.1 h, by rw [hU]; exact (gz.kept hS.2.1).moved hW.alike, gV.warm hW, by rw [hU]; exact (gX.kept hS.2.1).moved hW.alike⟩, by rw [hU]; exact P0⟩
  refine lz_call (σ := lz_s q1 e0) (G := lz_G D ci cl co (lx_A s) aK aV e0 mi) (P := kx_rv (fun τ => (∃ O, yZ_ 0 s0_ q1 O τ) ∧ LV_ q1 τ mi_0)) (fun q h => h) hS (va_runI (As := []) (rest := [.ref q1]) F (hx_X11_init l (lz_G D ci cl co (lx_A s) aK aV e0 mi) q1 (lz_s q1 e0) _ LV_init) (cwI 0 F.2.2.2.2 (kt_c lz_n3) rfl rfl rfl (F.2.2.2.2 _ lz_n2) (F.2.2.2.2 _ lz_n5) (F.2.2.2.2 _ lz_n4) rfl (by decide +kernel) ⟨Nat.le_of_ble_eq_true rfl, Nat.le_of_ble_eq_true rfl⟩) ⟨kx_blind, fun U hU hW9 => ⟨rfl, pre U hU hW9⟩⟩ rfl rfl hl.1 rfl (lv_room (Nat.le_of_ble_eq_true rfl)) dL_law__4 ⟨by show 10 + 0 + (10000 - 0) ≤ 601024; omega, by show 1000 + 600 * 0 + 600 * (10000 - 0) ≤ 7293034; omega⟩) (fun v σ1 H2 locs2 hv hc2 P2 hS => ?_)
  clear pre P0 ew hP hD
  obtain ⟨hv0, ⟨O, Z1⟩, V1⟩ := hv
  subst hv0
  have hc9 := hc2.2
  refine lv_astore_n (lv' := [(1, .ref q1), (0, .ref b)]) F.1 F.2.1 dL_law__7 rfl hl (by decide) rfl (fun ls hl => ?_)
  obtain ⟨LL, hLL, hP, hD⟩ := P2
  have hP : va_P D vwCl (va_pl LL (kx_e (lz_G D ci cl co (lx_A s) aK aV e0 mi) σ1)) H2 := hP
  have hD : va_D (lx_A s) (va_pl LL (kx_e (lz_G D ci cl co (lx_A s) aK aV e0 mi) σ1)) := hD
  refine va_new (ci := 13) (fs := lz_f) (C := RX12) (T := TX12) (N := 70) F.1 F.2.1 F.2.2.2.2 km_in tyX12 tyX12_ok hown (hts0 _ lz_n6) (hts0 _ lz_i13) (F.2.2.2.2 _ lz_n7) hK hP hD hS hA rfl lz_df12 (by show _ ≤ 601024; omega) (by show _ ≤ 7293034; omega) dL_law__8 (fun q2 H3 hP hD hS => ?_)
  refine lv_dup F.1 F.2.1 dL_law__11 rfl ?_
  obtain ⟨hq2, hne⟩ := lz_endD hD
  obtain ⟨A2, eA2⟩ : ∃ A2 : Nat → Prop, va_A [(q2, .inr (13, lz_f))] H3.size = A2 := ⟨_, rfl⟩
  have hF2 : ∀ q, A2 q → lx_A s q := fun q h => by
    rw [← eA2] at h
    rcases h with ⟨k, E, h⟩ | h
    · have hk : k < 1 := (List.getElem?_eq_some_iff.mp h).1
      obtain rfl : k = 0 := by omega
      cases h
      exact hq2
    · exact Nat.le_trans hS.1 h
  have hDr : va_D A2 [(q2, .inr (13, lz_f))] := lz_oneD (by rw [← eA2]; exact va_A.in (k := 0) rfl)
  have hnew : ∀ x : Nat, H3.size ≤ x → A2 x := fun x h => by rw [← eA2]; exact Or.inr h
  have nA2 : ∀ (k : Nat) (x : Nat × va_E), (va_pl LL (kx_e (lz_G D ci cl co (lx_A s) aK aV e0 mi) σ1))[k]? = some x → ¬ A2 x.1 := fun k x hx h => by
    rw [← eA2] at h
    rcases h with ⟨k1, E, h⟩ | h
    · have hk : k1 < 1 := (List.getElem?_eq_some_iff.mp h).1
      obtain rfl : k1 = 0 := by omega
      have e9 : (q2, (.inr (13, lz_f) : va_E)) = (x.1, E) := Option.some.inj h
      exact hne k x hx (congrArg Prod.fst e9).symm
    · exact Nat.not_le.mpr (lz_left hP k x hx).lt h
  have ms : ∀ i : Nat, i < 12 → ∀ U : State, U.heap = H3 → s.WarmedH U.vm → mi_s A2 (lz_pM.getD i 0) (lz_tx.getD i "") (mK i) U := by
    intro i hi U hU hW
    obtain ⟨r, nA, cell, g1, g2, g3⟩ := gs i hi
    exact ⟨vk_R.warm hW r, fun h => nA (hF2 _ h), cell, by rw [hU, hS.2.1 _ (Array.getElem?_eq_some_iff.mp g1).1 nA]; exact g1, g2, by rw [hW.alike.findClass]; exact g3⟩
  have preM : ∀ U : State, U.heap = H3 → s.WarmedH U.vm → mi_B D mK A2 q2 U := fun U hU hW =>
    ⟨va_K.moved hW.alike hK, by rw [hU]; exact lz_last hP, hDr, by rw [hU]; exact hnew, va_AO.moved hW.alike gO, ms 0 (by decide) U hU hW, ms 1 (by decide) U hU hW, ms 2 (by decide) U hU hW, ms 3 (by decide) U hU hW, ms 4 (by decide) U hU hW, ms 5 (by decide) U hU hW, ms 6 (by decide) U hU hW⟩
  refine va_callv (va_runI (As := []) (rest := [.ref q2]) F (hm_init l D mK mV A2 q2) (cwI 0 F.2.2.2.2 (kt_c lz_n8) rfl rfl rfl (F.2.2.2.2 _ lz_n7) (F.2.2.2.2 _ lz_n10) (F.2.2.2.2 _ lz_n9) rfl (by decide +kernel) ⟨Nat.le_of_ble_eq_true rfl, Nat.le_of_ble_eq_true rfl⟩) ⟨mi_blind, fun U hU hW9 => ⟨rfl, preM U hU hW9⟩⟩ rfl rfl hl.1 rfl (lv_room (Nat.le_of_ble_eq_true rfl)) dL_law__12 ⟨by show _ ≤ 601024; omega, by show _ ≤ 7293034; omega⟩) hS (fun q _ h => hF2 q h) hF2 (fun u t H4 locs4 ht hvm hu hB hz hk hS => ?_)
  clear preM ms
  obtain ⟨kP, kD, kK⟩ := hB
  rw [ht] at kP
  have kK : va_K D vwCl (km_ty (mi_G D mK mV u)) s := va_K.moved hvm.symm kK
  obtain ⟨M, eM⟩ : ∃ M : km_G, mi_G D mK mV u = M := ⟨_, rfl⟩
  have eM3 : M.2.2.1 = D := by rw [← eM]
  have eM4 : M.2.2.2.1 = mK := by rw [← eM]
  have eM5 : M.2.2.2.2 = mV := by rw [← eM]
  have hM0 : M.1 0 = q2 := by rw [← eM]; exact hu
  rw [eM] at kP kD kK
  have hAM : ∀ q, km_A M q → A2 q := fun q h => by obtain ⟨k, E, h1⟩ := lz_kmA (μ := mi_0) h; exact kD.2 k _ h1
  have hPL : va_P D vwCl (va_pl LL (kx_e (lz_G D ci cl co (lx_A s) aK aV e0 mi) σ1)) H4 := (lz_left hP).kept (fun k x hx => hk x.1 (lz_left hP k x hx).lt (nA2 k x hx))
  have hDL := lz_leftD hD
  rw [← hM0]
  refine lv_astore_n (lv' := [(2, .ref (M.1 0)), (1, .ref q1), (0, .ref b)]) F.1 F.2.1 dL_law__15 rfl hl (by decide) rfl (fun ls hl => ?_)
  refine lv_iconst (v := 1) F.1 F.2.1 dL_law__16 (by decide) ?_
  refine va_newa (atype := .long) (ty := .long) (N' := 1) (n := 1) (a0 := (1, .inr (.inl (fun _ => 0)))) F.1 F.2.1 (F.2.2.2.2 _ lz_n11) rfl gK (lz_pa hPL kP) (lz_appD hDL kD nA2 (fun q h => h) hF2) hS hA (fun _ => rfl) (by decide) (by decide) (by decide) (by show _ ≤ 601024; omega) (by show _ ≤ 7293034; omega) dL_law__17 (fun q3 cA H5 hK5 hP5 hD5 hS => ?_)
  have hcA : cA = cl := Option.some.inj ((hK5.2 3 _ rfl).2.symm.trans (hK5.2 1 _ rfl).2)
  subst hcA
  obtain ⟨hq3, hn3⟩ := lz_endD hD5
  have pl3 : ∀ (k : Nat) (x : Nat × va_E), (va_pl LL (kx_e (lz_G D ci cA co (lx_A s) aK aV e0 mi) σ1))[k]? = some x → x.1 ≠ q3 := fun k x hx => hn3 k x (by rw [List.getElem?_append_left (List.getElem?_eq_some_iff.mp hx).1]; exact hx)
  have km3 : ¬ km_A M q3 := fun h => by
    obtain ⟨k, E, h1⟩ := lz_kmA (μ := mi_0) h
    exact hn3 ((va_pl LL (kx_e (lz_G D ci cA co (lx_A s) aK aV e0 mi) σ1)).length + k) (q3, E) (by rw [List.getElem?_append_right (by omega)]; simpa using h1) rfl
  have hL3 : q3 ∉ LL := fun h => by
    obtain ⟨k, hk3⟩ := va_pl_get (X := []) (f := kx_e (lz_G D ci cA co (lx_A s) aK aV e0 mi) σ1) h
    exact pl3 k _ hk3 rfl
  have h0 : xt σ1 q3 = 0 := by
    by_cases h : xt σ1 q3 = 0
    · exact h
    · exact absurd (hLL q3 h) hL3
  have hz3 : q3 ≠ xz σ1 := fun h => gz.2.1.out (by rw [← (show xz σ1 = e0 from hc2.1), ← h]; exact hq3)
  have Z2 := yZ_newO Z1 h0 hz3
  have V2 := LV_newO Z1 V1 h0
  obtain ⟨G1, eG⟩ : ∃ G1 : kx_G, lz_G D ci cA co (fun q => s.heap.size ≤ q ∧ ¬ km_A M q) aK aV e0 mi = G1 := ⟨_, rfl⟩
  have hg1 := hall (fun q => s.heap.size ≤ q ∧ ¬ km_A M q)
  have P1 : va_P D vwCl (va_pl LL (kx_e G1 σ1) ++ [(q3, .inl (cA, 1, .inr (.inl (fun _ => 0))))]) H5 := by rw [← eG]; exact lz_pa (lz_left (lz_left hP5)) (lz_last hP5)
  have D1 : va_D (kx_A G1) (va_pl LL (kx_e G1 σ1) ++ [(q3, .inl (cA, 1, .inr (.inl (fun _ => 0))))]) := by
    rw [← eG]
    exact lz_appD (A1 := fun q => s.heap.size ≤ q ∧ ¬ km_A M q) (A2 := fun q => q = q3) ⟨hDL.1, fun k x hx => ⟨hDL.2 k x hx, fun h => nA2 k x hx (hAM _ h)⟩⟩ (lz_oneD rfl) pl3 (fun q h => h) (fun q h => by rw [h]; exact ⟨hq3, km3⟩)
  have eL3 : va_pl LL (kx_e G1 σ1) ++ [(q3, .inl (cA, 1, .inr (.inl (fun _ => 0))))] = va_pl (LL ++ [q3]) (kx_e G1 (xnewO σ1 q3)) := (va_pl_push hL3).trans (va_pl_congr (by rw [← eG]; exact kx_upO))
  rw [eL3] at P1 D1
  refine lv_astore_n (lv' := [(3, .ref q3), (2, .ref (M.1 0)), (1, .ref q1), (0, .ref b)]) F.1 F.2.1 dL_law__19 rfl hl (by decide) rfl (fun ls hl => ?_)
  refine lv_iconst (v := 0) F.1 F.2.1 dL_law__20 (by decide) ?_
  refine lv_istore (lv' := [(4, .int 0), (3, .ref q3), (2, .ref (M.1 0)), (1, .ref q1), (0, .ref b)]) F.1 F.2.1 dL_law__21 hl (by decide) rfl (fun ls hl => ?_)
  refine W.eq (g2 := F0 m 23 ls []) rfl ?_
  refine W.widen (k := 100 + xc (xnewO σ1 q3)) (n := 60000 + 600 * xc (xnewO σ1 q3)) (by show _ ≤ 100 + xc σ1; omega) (by show _ ≤ 60000 + 600 * xc σ1; omega) ?_
  have kP5 := lz_right (lz_left hP5)
  have z0 : (0 : Int32).toInt = 0 := by decide
  have CC : lx_C G1 M s H5 locs4 (xnewO σ1 q3) mi_0 := by
    refine ⟨hS, ⟨?_, ?_, ?_, ?_, ?_, ?_, ?_, ?_, ?_⟩, ⟨⟨?_, ?_⟩, ?_⟩, ⟨?_, ⟨kD.1, fun k x hx => lz_Akm hx⟩⟩, fun q h => ?_⟩
    · rw [← eG]; exact hg1.1
    · rw [← eG]; exact gz
    · rw [← eG]; exact hg1.2.2.1
    · rw [← eG]; exact gX
    · rw [eM3]; exact kK
    · rw [eM4, eM5]; exact gM
    · rw [eM4]; exact gR
    · rw [← eG]; exact fun q => Iff.rfl
    · exact fun q h => hF2 q (hAM q h)
    · rw [← eG]; exact hc2.1
    · exact hc2.2
    · refine ⟨LL ++ [q3], fun a h => ?_, ?_, D1⟩
      · by_cases ha : a = q3
        · rw [ha]; simp
        · exact List.mem_append_left _ (hLL a (fun h9 => h ((va_up_ne σ1.1 21 ha).trans h9)))
      · rw [← eG] at P1 ⊢; exact P1
    · rw [eM3]; exact kP5
    · obtain ⟨k, E, h1⟩ := lz_kmA (μ := mi_0) h
      exact (kP5 k _ h1).lt
  exact lc_loop hlt hL C0 F (G := G1) (M := M) (x := q1) (o := q3) 600 0 0 H5 locs4 (xnewO σ1 q3) mi_0 ls (by decide) (by rw [z0]; omega) CC Z2 lz_im V2 (by rw [z0]; omega) hl
/-- THE LAW, from its entry -/
theorem whole_start {p : Program} {e : Env} {s : State} {m : MethodId} {below : List Frame} {meth : Method} {c : Code} (l : Launch) (hlt : l.stackTraces = false) {b L : Nat} {xs : Nat → Int32} (hL : L ≤ 3072) (C0 : lw_At p s m meth c b L xs) : W p l e room_1 s m #[Value.ref b] below meth c s.heap [] 0 0 (lw_Z below #[Value.ref b] s) (entryFrame m ([Value.ref b] : List Value).toArray 8) := by
  have hl := lv_entry ([.ref b]) (n := 8) (Nat.le_of_ble_eq_true rfl)
  rw [lg_entry_eq]
  exact lz_run l hlt hL C0 _ hl

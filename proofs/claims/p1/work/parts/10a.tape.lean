theorem dX11_feed_0 : decode cX11_feed 0 = .ok (.aload_n 0, 1) := by decide +kernel
theorem dX11_feed_1 : decode cX11_feed 1 = .ok (.getfield 31, 3) := by decide +kernel
theorem dX11_feed_4 : decode cX11_feed 4 = .ok (.getfield 145, 3) := by decide +kernel
theorem dX11_feed_7 : decode cX11_feed 7 = .ok (.sipush 480, 3) := by decide +kernel
theorem dX11_feed_10 : decode cX11_feed 10 = .ok (.if_icmp .le 5, 3) := by decide +kernel
theorem dX11_feed_15 : decode cX11_feed 15 = .ok (.aload_n 0, 1) := by decide +kernel
theorem dX11_feed_16 : decode cX11_feed 16 = .ok (.getfield 31, 3) := by decide +kernel
theorem dX11_feed_19 : decode cX11_feed 19 = .ok (.iload_n 1, 1) := by decide +kernel
theorem dX11_feed_20 : decode cX11_feed 20 = .ok (.invokevirtual 148, 3) := by decide +kernel
theorem dX11_feed_23 : decode cX11_feed 23 = .ok (.aload_n 0, 1) := by decide +kernel
theorem dX11_feed_24 : decode cX11_feed 24 = .ok (.getfield 31, 3) := by decide +kernel
theorem dX11_feed_27 : decode cX11_feed 27 = .ok (.iload_n 2, 1) := by decide +kernel
theorem dX11_feed_28 : decode cX11_feed 28 = .ok (.invokevirtual 148, 3) := by decide +kernel
theorem dX11_feed_31 : decode cX11_feed 31 = .ok (.aload_n 0, 1) := by decide +kernel
theorem dX11_feed_32 : decode cX11_feed 32 = .ok (.getfield 31, 3) := by decide +kernel
theorem dX11_feed_35 : decode cX11_feed 35 = .ok (.iload_n 3, 1) := by decide +kernel
theorem dX11_feed_36 : decode cX11_feed 36 = .ok (.invokevirtual 148, 3) := by decide +kernel
theorem dX11_feed_39 : decode cX11_feed 39 = .ok (.aload_n 0, 1) := by decide +kernel
theorem dX11_feed_40 : decode cX11_feed 40 = .ok (.getfield 31, 3) := by decide +kernel
theorem dX11_feed_43 : decode cX11_feed 43 = .ok (.iload 4, 2) := by decide +kernel
theorem dX11_feed_45 : decode cX11_feed 45 = .ok (.invokevirtual 148, 3) := by decide +kernel
theorem dX11_feed_48 : decode cX11_feed 48 = .ok (.aload_n 0, 1) := by decide +kernel
theorem dX11_feed_49 : decode cX11_feed 49 = .ok (.getfield 31, 3) := by decide +kernel
theorem dX11_feed_52 : decode cX11_feed 52 = .ok (.iload 5, 2) := by decide +kernel
theorem dX11_feed_54 : decode cX11_feed 54 = .ok (.invokevirtual 148, 3) := by decide +kernel
theorem dX11_feed_57 : decode cX11_feed 57 = .ok (.aload_n 0, 1) := by decide +kernel
theorem dX11_feed_58 : decode cX11_feed 58 = .ok (.getfield 31, 3) := by decide +kernel
theorem dX11_feed_61 : decode cX11_feed 61 = .ok (.getfield 145, 3) := by decide +kernel
theorem dX11_feed_64 : decode cX11_feed 64 = .ok (.ireturn, 1) := by decide +kernel
theorem dX9_append_0 : decode cX9_append 0 = .ok (.bipush 24, 2) := by decide +kernel
theorem dX9_append_2 : decode cX9_append 2 = .ok (.istore_n 2, 1) := by decide +kernel
theorem dX9_append_3 : decode cX9_append 3 = .ok (.iload_n 2, 1) := by decide +kernel
theorem dX9_append_4 : decode cX9_append 4 = .ok (.ifCond .lt 47, 3) := by decide +kernel
theorem dX9_append_7 : decode cX9_append 7 = .ok (.aload_n 0, 1) := by decide +kernel
theorem dX9_append_8 : decode cX9_append 8 = .ok (.getfield 13, 3) := by decide +kernel
theorem dX9_append_11 : decode cX9_append 11 = .ok (.aload_n 0, 1) := by decide +kernel
theorem dX9_append_12 : decode cX9_append 12 = .ok (.getfield 9, 3) := by decide +kernel
theorem dX9_append_15 : decode cX9_append 15 = .ok (.arraylength, 1) := by decide +kernel
theorem dX9_append_16 : decode cX9_append 16 = .ok (.if_icmp .ge 35, 3) := by decide +kernel
theorem dX9_append_19 : decode cX9_append 19 = .ok (.aload_n 0, 1) := by decide +kernel
theorem dX9_append_20 : decode cX9_append 20 = .ok (.getfield 9, 3) := by decide +kernel
theorem dX9_append_23 : decode cX9_append 23 = .ok (.aload_n 0, 1) := by decide +kernel
theorem dX9_append_24 : decode cX9_append 24 = .ok (.getfield 13, 3) := by decide +kernel
theorem dX9_append_27 : decode cX9_append 27 = .ok (.iload_n 1, 1) := by decide +kernel
theorem dX9_append_28 : decode cX9_append 28 = .ok (.iload_n 2, 1) := by decide +kernel
theorem dX9_append_29 : decode cX9_append 29 = .ok (.iushr, 1) := by decide +kernel
theorem dX9_append_30 : decode cX9_append 30 = .ok (.sipush 255, 3) := by decide +kernel
theorem dX9_append_33 : decode cX9_append 33 = .ok (.iand, 1) := by decide +kernel
theorem dX9_append_34 : decode cX9_append 34 = .ok (.iastore, 1) := by decide +kernel
theorem dX9_append_35 : decode cX9_append 35 = .ok (.aload_n 0, 1) := by decide +kernel
theorem dX9_append_36 : decode cX9_append 36 = .ok (.dup, 1) := by decide +kernel
theorem dX9_append_37 : decode cX9_append 37 = .ok (.getfield 13, 3) := by decide +kernel
theorem dX9_append_40 : decode cX9_append 40 = .ok (.iconst 1, 1) := by decide +kernel
theorem dX9_append_41 : decode cX9_append 41 = .ok (.iadd, 1) := by decide +kernel
theorem dX9_append_42 : decode cX9_append 42 = .ok (.putfield 13, 3) := by decide +kernel
theorem dX9_append_45 : decode cX9_append 45 = .ok (.iinc 2 (-8), 3) := by decide +kernel
theorem dX9_append_48 : decode cX9_append 48 = .ok (.goto (-45), 3) := by decide +kernel
theorem dX9_append_51 : decode cX9_append 51 = .ok (.return_, 1) := by decide +kernel
set_option maxRecDepth 20000 in
theorem ggX11_feed_X9_append : GoodIn wsX11_feed wsX9_append := goodIn_r _ [7, 8, 9, 24, 25] (by decide +kernel) (by decide +kernel)
set_option maxRecDepth 20000 in
theorem gX11_feed_X9_append : GoodIn wsX11_feed (wsV RX11 148 RX9 yX9_append wsX9_append) := goodIn_app (goodIn_of _ (by decide +kernel)) ggX11_feed_X9_append
set_option maxHeartbeats 8000000 in
set_option maxRecDepth 100000 in
/-- Tape.append -/
theorem c_X9_append (l : Launch) (hlt : l.stackTraces = false) (e0 : Nat) (dC : Nat → ClassId) (dI : Nat → Nat → Nat) (sz : Nat) (tp tb : Nat) (cA : ClassId) (f : Nat → Int32) (k : Nat) (hk : k ≤ 480) (p0 : Int32) : Met l yX9_append wsX9_append ({ frames := 0, cells := 0, slots := 0, locals := 0 }) (va_Pc [.ref tp, .int p0] (pz_P e0 (dC, dI) [(cA, .int)] [(tp, .inr (10, [.ref tb, .int (nI k)])), (tb, .inl (cA, 500, .inl f))] sz)) (va_Qv (S := Nat → Int32) (fun _ : Nat → Int32 => True) (fun u t => va_P (dC, dI) vwCl [(tp, .inr (10, [.ref tb, .int (nI (k + 4))])), (tb, .inl (cA, 500, .inl u))] t.heap ∧ va_D (va_A [(tp, .inr (10, [.ref tb, .int (nI k)])), (tb, .inl (cA, 500, .inl f))] sz) [(tp, .inr (10, [.ref tb, .int (nI (k + 4))])), (tb, .inl (cA, 500, .inl u))]) (va_A [(tp, .inr (10, [.ref tb, .int (nI k)])), (tb, .inl (cA, 500, .inl f))] sz)) 0 0 (va_A [(tp, .inr (10, [.ref tb, .int (nI k)])), (tb, .inl (cA, 500, .inl f))] sz) := by
  refine Met.ofW (cc := cX9_append) (maxL := 3) (ret := none) (by decide) rfl ?_
  intro p e s m args below meth c s₁ B hml hv
  obtain ⟨rfl, hsz, hP, hK, hD0, hZ, hV, hT⟩ := hv
  have hx := B.exec
  have hb := B.bytes
  have hr := B.returns
  have hts := atoms_spec (ws := wsX9_append) B.pre
  have hown : s.vm.findClass RX9 = some m.cls := findClass_of_methodNamed B.named
  have hlocks := B.notSynchronized
  have hinX9 : ∀ w ∈ wsX90, w ∈ wsX9_append := fun w h => by unfold wsX9_append; simp only [List.mem_cons, List.mem_append, h, or_true, true_or]
  subst hsz
  have hD := hD0.self (sz := s.heap.size)
  generalize hAe : va_A [(tp, .inr (10, [.ref tb, .int (nI k)])), (tb, .inl (cA, 500, .inl f))] s.heap.size = A at hD hZ hT ⊢
  have hA : ∀ q : Nat, s.heap.size ≤ q → A q := fun q h => by rw [← hAe]; exact Or.inr h
  have hS : va_S A s.heap s.heap [] := va_S.rf
  have hP : va_P (dC, dI) vwCl [(tp, .inr (10, [.ref tb, .int (nI k)])), (tb, .inl (cA, 500, .inl f))] s.heap := hP
  have hl := lv_entry ([.ref tp, .int p0]) (n := 3) (Nat.le_of_ble_eq_true rfl)
  rw [lg_entry_eq]
  generalize (lg_sl ([.ref tp, .int p0]) ++ List.replicate (3 - (lg_sl ([.ref tp, .int p0])).length) Slot.unset).toArray = ls at hl ⊢
  have hl : lv_has ls 3 [(0, .ref tp), (1, .int p0)] := hl
  refine lv_bipush (v := 24) hx hb dX9_append_0 (by decide) ?_
  refine lv_istore_n (lv' := [(2, .int 24), (0, .ref tp), (1, .int p0)]) hx hb dX9_append_2 rfl hl (by decide) rfl (fun ls hl => ?_)
  refine lv_iload_n hx hb dX9_append_3 rfl (lv_at hl 0 rfl) ?_
  refine lv_if_lt (tgt := 51) hx hb dX9_append_4 (by decide) (fun c_1 => ?_) (fun c_1 => ?_)
  · exact absurd c_1 (by decide)
  refine lv_aload_n hx hb dX9_append_7 rfl (lv_at hl 1 rfl) ?_
  refine va_get (D := (dC, dI)) (ci := 10) (v := .int (nI k)) (C := RX9) (T := TX9) (N := 2) hx hb hts hinX9 hown hK hP 0 rfl rfl 1 (by decide) (hts (.fieldLink RX9 13 "LogRiver$Tape" "length" "I") (by decide +kernel)) (fun _ h9 => h9) rfl dX9_append_8 ?_
  refine lv_aload_n hx hb dX9_append_11 rfl (lv_at hl 1 rfl) ?_
  refine va_get (D := (dC, dI)) (ci := 10) (v := .ref tb) (C := RX9) (T := TX9) (N := 2) hx hb hts hinX9 hown hK hP 0 rfl rfl 0 (by decide) (hts (.fieldLink RX9 9 "LogRiver$Tape" "bytes" "[I") (by decide +kernel)) (fun _ h9 => h9) rfl dX9_append_12 ?_
  refine va_alen (v := 500) hx hb hK hP 1 0 rfl rfl rfl dX9_append_15 ?_
  refine lv_icmp_ge (tgt := 51) hx hb dX9_append_16 (by decide) (fun c_2 => ?_) (fun c_2 => ?_)
  · exact absurd c_2 (pz_nge (b := 500) (y := 500) rfl (by omega) (by decide))
  refine lv_aload_n hx hb dX9_append_19 rfl (lv_at hl 1 rfl) ?_
  refine va_get (D := (dC, dI)) (ci := 10) (v := .ref tb) (C := RX9) (T := TX9) (N := 2) hx hb hts hinX9 hown hK hP 0 rfl rfl 0 (by decide) (hts (.fieldLink RX9 9 "LogRiver$Tape" "bytes" "[I") (by decide +kernel)) (fun _ h9 => h9) rfl dX9_append_20 ?_
  refine lv_aload_n hx hb dX9_append_23 rfl (lv_at hl 1 rfl) ?_
  refine va_get (D := (dC, dI)) (ci := 10) (v := .int (nI k)) (C := RX9) (T := TX9) (N := 2) hx hb hts hinX9 hown hK hP 0 rfl rfl 1 (by decide) (hts (.fieldLink RX9 13 "LogRiver$Tape" "length" "I") (by decide +kernel)) (fun _ h9 => h9) rfl dX9_append_24 ?_
  refine lv_iload_n hx hb dX9_append_27 rfl (lv_at hl 2 rfl) ?_
  refine lv_iload_n hx hb dX9_append_28 rfl (lv_at hl 0 rfl) ?_
  refine lv_iushr hx hb dX9_append_29 rfl ?_
  refine lv_topi (fun x_3 ex_3 => ?_)
  refine lv_sipush (v := 255) hx hb dX9_append_30 (by decide) ?_
  refine lv_iand hx hb dX9_append_33 ?_
  refine lv_topi (fun x_4 ex_4 => ?_)
  refine va_iast hx hb hK hP hD hS 1 0 rfl rfl (vp_in_nI (by omega) (by decide)) dX9_append_34 (fun H locs hP hD hS => ?_)
  have hP : va_P (dC, dI) vwCl [(tp, .inr (10, [.ref tb, .int (nI k)])), (tb, .inl (cA, 500, .inl (upd f (Int32.toNatClampNeg (nI k)) x_4)))] H := hP
  have hD : va_D A [(tp, .inr (10, [.ref tb, .int (nI k)])), (tb, .inl (cA, 500, .inl (upd f (Int32.toNatClampNeg (nI k)) x_4)))] := hD
  generalize upd f (Int32.toNatClampNeg (nI k)) x_4 = f_5 at hP hD
  refine lv_aload_n hx hb dX9_append_35 rfl (lv_at hl 1 rfl) ?_
  refine lv_dup hx hb dX9_append_36 rfl ?_
  refine va_get (D := (dC, dI)) (ci := 10) (v := .int (nI k)) (C := RX9) (T := TX9) (N := 2) hx hb hts hinX9 hown hK hP 0 rfl rfl 1 (by decide) (hts (.fieldLink RX9 13 "LogRiver$Tape" "length" "I") (by decide +kernel)) (fun _ h9 => h9) rfl dX9_append_37 ?_
  refine lv_iconst (v := 1) hx hb dX9_append_40 (by decide) ?_
  refine lv_iadd hx hb dX9_append_41 ?_
  refine lv_topi (fun x_6 ex_6 => ?_)
  obtain rfl : x_6 = nI (k + 1) := ex_6.trans (nI_1 k)
  refine va_put (D := (dC, dI)) (ci := 10) (v := .int (nI (k + 1))) (ty := .int) (C := RX9) (T := TX9) (N := 2) hx hb hts hinX9 tyX9 tyX9_ok nmX9 hown hK hP hD hS 0 rfl rfl 1 (by decide) (hts (.fieldLink RX9 13 "LogRiver$Tape" "length" "I") (by decide +kernel)) (fun _ h9 => h9) rfl (by decide +kernel) rfl rfl (Nat.le_of_ble_eq_true rfl) dX9_append_42 (fun H locs hP hD hS => ?_)
  have hP : va_P (dC, dI) vwCl [(tp, .inr (10, [.ref tb, .int (nI (k + 1))])), (tb, .inl (cA, 500, .inl f_5))] H := hP
  have hD : va_D A [(tp, .inr (10, [.ref tb, .int (nI (k + 1))])), (tb, .inl (cA, 500, .inl f_5))] := hD
  refine lv_iinc (v := 16) (lv' := [(2, .int 16), (0, .ref tp), (1, .int p0)]) hx hb dX9_append_45 hl (k := 0) rfl (by decide) (by decide) rfl (fun ls hl => ?_)
  refine lv_goto (tgt := 3) hx hb dX9_append_48 (by decide) ?_
  refine lv_iload_n hx hb dX9_append_3 rfl (lv_at hl 0 rfl) ?_
  refine lv_if_lt (tgt := 51) hx hb dX9_append_4 (by decide) (fun c_7 => ?_) (fun c_7 => ?_)
  · exact absurd c_7 (by decide)
  refine lv_aload_n hx hb dX9_append_7 rfl (lv_at hl 1 rfl) ?_
  refine va_get (D := (dC, dI)) (ci := 10) (v := .int (nI (k + 1))) (C := RX9) (T := TX9) (N := 2) hx hb hts hinX9 hown hK hP 0 rfl rfl 1 (by decide) (hts (.fieldLink RX9 13 "LogRiver$Tape" "length" "I") (by decide +kernel)) (fun _ h9 => h9) rfl dX9_append_8 ?_
  refine lv_aload_n hx hb dX9_append_11 rfl (lv_at hl 1 rfl) ?_
  refine va_get (D := (dC, dI)) (ci := 10) (v := .ref tb) (C := RX9) (T := TX9) (N := 2) hx hb hts hinX9 hown hK hP 0 rfl rfl 0 (by decide) (hts (.fieldLink RX9 9 "LogRiver$Tape" "bytes" "[I") (by decide +kernel)) (fun _ h9 => h9) rfl dX9_append_12 ?_
  refine va_alen (v := 500) hx hb hK hP 1 0 rfl rfl rfl dX9_append_15 ?_
  refine lv_icmp_ge (tgt := 51) hx hb dX9_append_16 (by decide) (fun c_8 => ?_) (fun c_8 => ?_)
  · exact absurd c_8 (pz_nge (b := 500) (y := 500) rfl (by omega) (by decide))
  refine lv_aload_n hx hb dX9_append_19 rfl (lv_at hl 1 rfl) ?_
  refine va_get (D := (dC, dI)) (ci := 10) (v := .ref tb) (C := RX9) (T := TX9) (N := 2) hx hb hts hinX9 hown hK hP 0 rfl rfl 0 (by decide) (hts (.fieldLink RX9 9 "LogRiver$Tape" "bytes" "[I") (by decide +kernel)) (fun _ h9 => h9) rfl dX9_append_20 ?_
  refine lv_aload_n hx hb dX9_append_23 rfl (lv_at hl 1 rfl) ?_
  refine va_get (D := (dC, dI)) (ci := 10) (v := .int (nI (k + 1))) (C := RX9) (T := TX9) (N := 2) hx hb hts hinX9 hown hK hP 0 rfl rfl 1 (by decide) (hts (.fieldLink RX9 13 "LogRiver$Tape" "length" "I") (by decide +kernel)) (fun _ h9 => h9) rfl dX9_append_24 ?_
  refine lv_iload_n hx hb dX9_append_27 rfl (lv_at hl 2 rfl) ?_
  refine lv_iload_n hx hb dX9_append_28 rfl (lv_at hl 0 rfl) ?_
  refine lv_iushr hx hb dX9_append_29 rfl ?_
  refine lv_topi (fun x_9 ex_9 => ?_)
  refine lv_sipush (v := 255) hx hb dX9_append_30 (by decide) ?_
  refine lv_iand hx hb dX9_append_33 ?_
  refine lv_topi (fun x_10 ex_10 => ?_)
  refine va_iast hx hb hK hP hD hS 1 0 rfl rfl (vp_in_nI (by omega) (by decide)) dX9_append_34 (fun H locs hP hD hS => ?_)
  have hP : va_P (dC, dI) vwCl [(tp, .inr (10, [.ref tb, .int (nI (k + 1))])), (tb, .inl (cA, 500, .inl (upd f_5 (Int32.toNatClampNeg (nI (k + 1))) x_10)))] H := hP
  have hD : va_D A [(tp, .inr (10, [.ref tb, .int (nI (k + 1))])), (tb, .inl (cA, 500, .inl (upd f_5 (Int32.toNatClampNeg (nI (k + 1))) x_10)))] := hD
  generalize upd f_5 (Int32.toNatClampNeg (nI (k + 1))) x_10 = f_11 at hP hD
  refine lv_aload_n hx hb dX9_append_35 rfl (lv_at hl 1 rfl) ?_
  refine lv_dup hx hb dX9_append_36 rfl ?_
  refine va_get (D := (dC, dI)) (ci := 10) (v := .int (nI (k + 1))) (C := RX9) (T := TX9) (N := 2) hx hb hts hinX9 hown hK hP 0 rfl rfl 1 (by decide) (hts (.fieldLink RX9 13 "LogRiver$Tape" "length" "I") (by decide +kernel)) (fun _ h9 => h9) rfl dX9_append_37 ?_
  refine lv_iconst (v := 1) hx hb dX9_append_40 (by decide) ?_
  refine lv_iadd hx hb dX9_append_41 ?_
  refine lv_topi (fun x_12 ex_12 => ?_)
  obtain rfl : x_12 = nI ((k + 1) + 1) := ex_12.trans (nI_1 (k + 1))
  refine va_put (D := (dC, dI)) (ci := 10) (v := .int (nI ((k + 1) + 1))) (ty := .int) (C := RX9) (T := TX9) (N := 2) hx hb hts hinX9 tyX9 tyX9_ok nmX9 hown hK hP hD hS 0 rfl rfl 1 (by decide) (hts (.fieldLink RX9 13 "LogRiver$Tape" "length" "I") (by decide +kernel)) (fun _ h9 => h9) rfl (by decide +kernel) rfl rfl (Nat.le_of_ble_eq_true rfl) dX9_append_42 (fun H locs hP hD hS => ?_)
  have hP : va_P (dC, dI) vwCl [(tp, .inr (10, [.ref tb, .int (nI ((k + 1) + 1))])), (tb, .inl (cA, 500, .inl f_11))] H := hP
  have hD : va_D A [(tp, .inr (10, [.ref tb, .int (nI ((k + 1) + 1))])), (tb, .inl (cA, 500, .inl f_11))] := hD
  refine lv_iinc (v := 8) (lv' := [(2, .int 8), (0, .ref tp), (1, .int p0)]) hx hb dX9_append_45 hl (k := 0) rfl (by decide) (by decide) rfl (fun ls hl => ?_)
  refine lv_goto (tgt := 3) hx hb dX9_append_48 (by decide) ?_
  refine lv_iload_n hx hb dX9_append_3 rfl (lv_at hl 0 rfl) ?_
  refine lv_if_lt (tgt := 51) hx hb dX9_append_4 (by decide) (fun c_13 => ?_) (fun c_13 => ?_)
  · exact absurd c_13 (by decide)
  refine lv_aload_n hx hb dX9_append_7 rfl (lv_at hl 1 rfl) ?_
  refine va_get (D := (dC, dI)) (ci := 10) (v := .int (nI ((k + 1) + 1))) (C := RX9) (T := TX9) (N := 2) hx hb hts hinX9 hown hK hP 0 rfl rfl 1 (by decide) (hts (.fieldLink RX9 13 "LogRiver$Tape" "length" "I") (by decide +kernel)) (fun _ h9 => h9) rfl dX9_append_8 ?_
  refine lv_aload_n hx hb dX9_append_11 rfl (lv_at hl 1 rfl) ?_
  refine va_get (D := (dC, dI)) (ci := 10) (v := .ref tb) (C := RX9) (T := TX9) (N := 2) hx hb hts hinX9 hown hK hP 0 rfl rfl 0 (by decide) (hts (.fieldLink RX9 9 "LogRiver$Tape" "bytes" "[I") (by decide +kernel)) (fun _ h9 => h9) rfl dX9_append_12 ?_
  refine va_alen (v := 500) hx hb hK hP 1 0 rfl rfl rfl dX9_append_15 ?_
  refine lv_icmp_ge (tgt := 51) hx hb dX9_append_16 (by decide) (fun c_14 => ?_) (fun c_14 => ?_)
  · exact absurd c_14 (pz_nge (b := 500) (y := 500) rfl (by omega) (by decide))
  refine lv_aload_n hx hb dX9_append_19 rfl (lv_at hl 1 rfl) ?_
  refine va_get (D := (dC, dI)) (ci := 10) (v := .ref tb) (C := RX9) (T := TX9) (N := 2) hx hb hts hinX9 hown hK hP 0 rfl rfl 0 (by decide) (hts (.fieldLink RX9 9 "LogRiver$Tape" "bytes" "[I") (by decide +kernel)) (fun _ h9 => h9) rfl dX9_append_20 ?_
  refine lv_aload_n hx hb dX9_append_23 rfl (lv_at hl 1 rfl) ?_
  refine va_get (D := (dC, dI)) (ci := 10) (v := .int (nI ((k + 1) + 1))) (C := RX9) (T := TX9) (N := 2) hx hb hts hinX9 hown hK hP 0 rfl rfl 1 (by decide) (hts (.fieldLink RX9 13 "LogRiver$Tape" "length" "I") (by decide +kernel)) (fun _ h9 => h9) rfl dX9_append_24 ?_
  refine lv_iload_n hx hb dX9_append_27 rfl (lv_at hl 2 rfl) ?_
  refine lv_iload_n hx hb dX9_append_28 rfl (lv_at hl 0 rfl) ?_
  refine lv_iushr hx hb dX9_append_29 rfl ?_
  refine lv_topi (fun x_15 ex_15 => ?_)
  refine lv_sipush (v := 255) hx hb dX9_append_30 (by decide) ?_
  refine lv_iand hx hb dX9_append_33 ?_
  refine lv_topi (fun x_16 ex_16 => ?_)
  refine va_iast hx hb hK hP hD hS 1 0 rfl rfl (vp_in_nI (by omega) (by decide)) dX9_append_34 (fun H locs hP hD hS => ?_)
  have hP : va_P (dC, dI) vwCl [(tp, .inr (10, [.ref tb, .int (nI ((k + 1) + 1))])), (tb, .inl (cA, 500, .inl (upd f_11 (Int32.toNatClampNeg (nI ((k + 1) + 1))) x_16)))] H := hP
  have hD : va_D A [(tp, .inr (10, [.ref tb, .int (nI ((k + 1) + 1))])), (tb, .inl (cA, 500, .inl (upd f_11 (Int32.toNatClampNeg (nI ((k + 1) + 1))) x_16)))] := hD
  generalize upd f_11 (Int32.toNatClampNeg (nI ((k + 1) + 1))) x_16 = f_17 at hP hD
  refine lv_aload_n hx hb dX9_append_35 rfl (lv_at hl 1 rfl) ?_
  refine lv_dup hx hb dX9_append_36 rfl ?_
  refine va_get (D := (dC, dI)) (ci := 10) (v := .int (nI ((k + 1) + 1))) (C := RX9) (T := TX9) (N := 2) hx hb hts hinX9 hown hK hP 0 rfl rfl 1 (by decide) (hts (.fieldLink RX9 13 "LogRiver$Tape" "length" "I") (by decide +kernel)) (fun _ h9 => h9) rfl dX9_append_37 ?_
  refine lv_iconst (v := 1) hx hb dX9_append_40 (by decide) ?_
  refine lv_iadd hx hb dX9_append_41 ?_
  refine lv_topi (fun x_18 ex_18 => ?_)
  obtain rfl : x_18 = nI (((k + 1) + 1) + 1) := ex_18.trans (nI_1 ((k + 1) + 1))
  refine va_put (D := (dC, dI)) (ci := 10) (v := .int (nI (((k + 1) + 1) + 1))) (ty := .int) (C := RX9) (T := TX9) (N := 2) hx hb hts hinX9 tyX9 tyX9_ok nmX9 hown hK hP hD hS 0 rfl rfl 1 (by decide) (hts (.fieldLink RX9 13 "LogRiver$Tape" "length" "I") (by decide +kernel)) (fun _ h9 => h9) rfl (by decide +kernel) rfl rfl (Nat.le_of_ble_eq_true rfl) dX9_append_42 (fun H locs hP hD hS => ?_)
  have hP : va_P (dC, dI) vwCl [(tp, .inr (10, [.ref tb, .int (nI (((k + 1) + 1) + 1))])), (tb, .inl (cA, 500, .inl f_17))] H := hP
  have hD : va_D A [(tp, .inr (10, [.ref tb, .int (nI (((k + 1) + 1) + 1))])), (tb, .inl (cA, 500, .inl f_17))] := hD
  refine lv_iinc (v := 0) (lv' := [(2, .int 0), (0, .ref tp), (1, .int p0)]) hx hb dX9_append_45 hl (k := 0) rfl (by decide) (by decide) rfl (fun ls hl => ?_)
  refine lv_goto (tgt := 3) hx hb dX9_append_48 (by decide) ?_
  refine lv_iload_n hx hb dX9_append_3 rfl (lv_at hl 0 rfl) ?_
  refine lv_if_lt (tgt := 51) hx hb dX9_append_4 (by decide) (fun c_19 => ?_) (fun c_19 => ?_)
  · exact absurd c_19 (by decide)
  refine lv_aload_n hx hb dX9_append_7 rfl (lv_at hl 1 rfl) ?_
  refine va_get (D := (dC, dI)) (ci := 10) (v := .int (nI (((k + 1) + 1) + 1))) (C := RX9) (T := TX9) (N := 2) hx hb hts hinX9 hown hK hP 0 rfl rfl 1 (by decide) (hts (.fieldLink RX9 13 "LogRiver$Tape" "length" "I") (by decide +kernel)) (fun _ h9 => h9) rfl dX9_append_8 ?_
  refine lv_aload_n hx hb dX9_append_11 rfl (lv_at hl 1 rfl) ?_
  refine va_get (D := (dC, dI)) (ci := 10) (v := .ref tb) (C := RX9) (T := TX9) (N := 2) hx hb hts hinX9 hown hK hP 0 rfl rfl 0 (by decide) (hts (.fieldLink RX9 9 "LogRiver$Tape" "bytes" "[I") (by decide +kernel)) (fun _ h9 => h9) rfl dX9_append_12 ?_
  refine va_alen (v := 500) hx hb hK hP 1 0 rfl rfl rfl dX9_append_15 ?_
  refine lv_icmp_ge (tgt := 51) hx hb dX9_append_16 (by decide) (fun c_20 => ?_) (fun c_20 => ?_)
  · exact absurd c_20 (pz_nge (b := 500) (y := 500) rfl (by omega) (by decide))
  refine lv_aload_n hx hb dX9_append_19 rfl (lv_at hl 1 rfl) ?_
  refine va_get (D := (dC, dI)) (ci := 10) (v := .ref tb) (C := RX9) (T := TX9) (N := 2) hx hb hts hinX9 hown hK hP 0 rfl rfl 0 (by decide) (hts (.fieldLink RX9 9 "LogRiver$Tape" "bytes" "[I") (by decide +kernel)) (fun _ h9 => h9) rfl dX9_append_20 ?_
  refine lv_aload_n hx hb dX9_append_23 rfl (lv_at hl 1 rfl) ?_
  refine va_get (D := (dC, dI)) (ci := 10) (v := .int (nI (((k + 1) + 1) + 1))) (C := RX9) (T := TX9) (N := 2) hx hb hts hinX9 hown hK hP 0 rfl rfl 1 (by decide) (hts (.fieldLink RX9 13 "LogRiver$Tape" "length" "I") (by decide +kernel)) (fun _ h9 => h9) rfl dX9_append_24 ?_
  refine lv_iload_n hx hb dX9_append_27 rfl (lv_at hl 2 rfl) ?_
  refine lv_iload_n hx hb dX9_append_28 rfl (lv_at hl 0 rfl) ?_
  refine lv_iushr hx hb dX9_append_29 rfl ?_
  refine lv_topi (fun x_21 ex_21 => ?_)
  refine lv_sipush (v := 255) hx hb dX9_append_30 (by decide) ?_
  refine lv_iand hx hb dX9_append_33 ?_
  refine lv_topi (fun x_22 ex_22 => ?_)
  refine va_iast hx hb hK hP hD hS 1 0 rfl rfl (vp_in_nI (by omega) (by decide)) dX9_append_34 (fun H locs hP hD hS => ?_)
  have hP : va_P (dC, dI) vwCl [(tp, .inr (10, [.ref tb, .int (nI (((k + 1) + 1) + 1))])), (tb, .inl (cA, 500, .inl (upd f_17 (Int32.toNatClampNeg (nI (((k + 1) + 1) + 1))) x_22)))] H := hP
  have hD : va_D A [(tp, .inr (10, [.ref tb, .int (nI (((k + 1) + 1) + 1))])), (tb, .inl (cA, 500, .inl (upd f_17 (Int32.toNatClampNeg (nI (((k + 1) + 1) + 1))) x_22)))] := hD
  generalize upd f_17 (Int32.toNatClampNeg (nI (((k + 1) + 1) + 1))) x_22 = f_23 at hP hD
  refine lv_aload_n hx hb dX9_append_35 rfl (lv_at hl 1 rfl) ?_
  refine lv_dup hx hb dX9_append_36 rfl ?_
  refine va_get (D := (dC, dI)) (ci := 10) (v := .int (nI (((k + 1) + 1) + 1))) (C := RX9) (T := TX9) (N := 2) hx hb hts hinX9 hown hK hP 0 rfl rfl 1 (by decide) (hts (.fieldLink RX9 13 "LogRiver$Tape" "length" "I") (by decide +kernel)) (fun _ h9 => h9) rfl dX9_append_37 ?_
  refine lv_iconst (v := 1) hx hb dX9_append_40 (by decide) ?_
  refine lv_iadd hx hb dX9_append_41 ?_
  refine lv_topi (fun x_24 ex_24 => ?_)
  obtain rfl : x_24 = nI ((((k + 1) + 1) + 1) + 1) := ex_24.trans (nI_1 (((k + 1) + 1) + 1))
  refine va_put (D := (dC, dI)) (ci := 10) (v := .int (nI ((((k + 1) + 1) + 1) + 1))) (ty := .int) (C := RX9) (T := TX9) (N := 2) hx hb hts hinX9 tyX9 tyX9_ok nmX9 hown hK hP hD hS 0 rfl rfl 1 (by decide) (hts (.fieldLink RX9 13 "LogRiver$Tape" "length" "I") (by decide +kernel)) (fun _ h9 => h9) rfl (by decide +kernel) rfl rfl (Nat.le_of_ble_eq_true rfl) dX9_append_42 (fun H locs hP hD hS => ?_)
  have hP : va_P (dC, dI) vwCl [(tp, .inr (10, [.ref tb, .int (nI ((((k + 1) + 1) + 1) + 1))])), (tb, .inl (cA, 500, .inl f_23))] H := hP
  have hD : va_D A [(tp, .inr (10, [.ref tb, .int (nI ((((k + 1) + 1) + 1) + 1))])), (tb, .inl (cA, 500, .inl f_23))] := hD
  refine lv_iinc (v := (-8)) (lv' := [(2, .int (-8)), (0, .ref tp), (1, .int p0)]) hx hb dX9_append_45 hl (k := 0) rfl (by decide) (by decide) rfl (fun ls hl => ?_)
  refine lv_goto (tgt := 3) hx hb dX9_append_48 (by decide) ?_
  refine lv_iload_n hx hb dX9_append_3 rfl (lv_at hl 0 rfl) ?_
  refine lv_if_lt (tgt := 51) hx hb dX9_append_4 (by decide) (fun c_25 => ?_) (fun c_25 => ?_)
  rotate_left
  · exact absurd c_25 (by decide)
  refine W.widen (k := 0) (n := 0) (Nat.le_of_ble_eq_true rfl) (Nat.le_of_ble_eq_true rfl) ?_
  have hP9 := hP.sub (ws' := [(tp, .inr (10, [.ref tb, .int (nI ((((k + 1) + 1) + 1) + 1))])), (tb, .inl (cA, 500, .inl f_23))]) [0, 1] rfl
  have hD9 := hD.sub (ws' := [(tp, .inr (10, [.ref tb, .int (nI ((((k + 1) + 1) + 1) + 1))])), (tb, .inl (cA, 500, .inl f_23))]) [0, 1] (by decide) rfl
  exact W.vret hx hb hr (fun t ht hW => ⟨⟨f_23, rfl, trivial, ⟨(by rw [ht]; exact hP9), hD9⟩⟩, hS.F ht⟩) hS.2.2 dX9_append_51
set_option maxHeartbeats 8000000 in
set_option maxRecDepth 100000 in
/-- feed -/
theorem c_X11_feed (l : Launch) (hlt : l.stackTraces = false) (e0 : Nat) (dC : Nat → ClassId) (dI : Nat → Nat → Nat) (sz : Nat) (h : Nat → Nat) (ca : Nat → ClassId) (p0 p1 p2 p3 p4 : Int32) : Met l yX11_feed wsX11_feed ({ frames := 1, cells := 0, slots := 0, locals := 22 }) (va_Pc [.ref (h 0), .int p0, .int p1, .int p2, .int p3, .int p4] (pz_P e0 (dC, dI) [(ca 0, .int)] [(h 0, .inr (12, [.ref (h 1), .ref (h 2), .ref (h 3), .ref (h 4), .ref (h 5), .ref (h 6), .ref (h 8), .ref (h 12), .ref (h 11), .int 0, .int 0, .int (-1), .long 0, .long 0])), (h 6, .inr (10, [.ref (h 7), .int 0])), (h 7, .inl (ca 0, 500, .inl (fun _ => 0)))] sz)) (va_Qi (S := Unit) (fun (r : Int32) (_ : Unit) => r = 20) (fun _ _ => True) (va_A [(h 0, .inr (12, [.ref (h 1), .ref (h 2), .ref (h 3), .ref (h 4), .ref (h 5), .ref (h 6), .ref (h 8), .ref (h 12), .ref (h 11), .int 0, .int 0, .int (-1), .long 0, .long 0])), (h 6, .inr (10, [.ref (h 7), .int 0])), (h 7, .inl (ca 0, 500, .inl (fun _ => 0)))] sz)) 0 0 (va_A [(h 0, .inr (12, [.ref (h 1), .ref (h 2), .ref (h 3), .ref (h 4), .ref (h 5), .ref (h 6), .ref (h 8), .ref (h 12), .ref (h 11), .int 0, .int 0, .int (-1), .long 0, .long 0])), (h 6, .inr (10, [.ref (h 7), .int 0])), (h 7, .inl (ca 0, 500, .inl (fun _ => 0)))] sz) := by
  refine Met.ofW (cc := cX11_feed) (maxL := 6) (ret := (some .int)) (by decide) rfl ?_
  intro p e s m args below meth c s₁ B hml hv
  obtain ⟨rfl, hsz, hP, hK, hD0, hZ, hV, hT⟩ := hv
  have hx := B.exec
  have hb := B.bytes
  have hr := B.returns
  have hts := atoms_spec (ws := wsX11_feed) B.pre
  have hown : s.vm.findClass RX11 = some m.cls := findClass_of_methodNamed B.named
  have hlocks := B.notSynchronized
  have hinX11 : ∀ w ∈ wsX110, w ∈ wsX11_feed := fun w h => by unfold wsX11_feed; simp only [List.mem_cons, List.mem_append, h, or_true, true_or]
  have hinX9 : ∀ w ∈ wsX90, w ∈ wsX11_feed := fun w h => by unfold wsX11_feed; simp only [List.mem_cons, List.mem_append, h, or_true, true_or]
  subst hsz
  have hD := hD0.self (sz := s.heap.size)
  generalize hAe : va_A [(h 0, .inr (12, [.ref (h 1), .ref (h 2), .ref (h 3), .ref (h 4), .ref (h 5), .ref (h 6), .ref (h 8), .ref (h 12), .ref (h 11), .int 0, .int 0, .int (-1), .long 0, .long 0])), (h 6, .inr (10, [.ref (h 7), .int 0])), (h 7, .inl (ca 0, 500, .inl (fun _ => 0)))] s.heap.size = A at hD hZ hT ⊢
  have hA : ∀ q : Nat, s.heap.size ≤ q → A q := fun q h => by rw [← hAe]; exact Or.inr h
  have hS : va_S A s.heap s.heap [] := va_S.rf
  have hP : va_P (dC, dI) vwCl [(h 0, .inr (12, [.ref (h 1), .ref (h 2), .ref (h 3), .ref (h 4), .ref (h 5), .ref (h 6), .ref (h 8), .ref (h 12), .ref (h 11), .int 0, .int 0, .int (-1), .long 0, .long 0])), (h 6, .inr (10, [.ref (h 7), .int 0])), (h 7, .inl (ca 0, 500, .inl (fun _ => 0)))] s.heap := hP
  have hl := lv_entry ([.ref (h 0), .int p0, .int p1, .int p2, .int p3, .int p4]) (n := 6) (Nat.le_of_ble_eq_true rfl)
  rw [lg_entry_eq]
  generalize (lg_sl ([.ref (h 0), .int p0, .int p1, .int p2, .int p3, .int p4]) ++ List.replicate (6 - (lg_sl ([.ref (h 0), .int p0, .int p1, .int p2, .int p3, .int p4])).length) Slot.unset).toArray = ls at hl ⊢
  have hl : lv_has ls 6 [(0, .ref (h 0)), (1, .int p0), (2, .int p1), (3, .int p2), (4, .int p3), (5, .int p4)] := hl
  refine lv_aload_n hx hb dX11_feed_0 rfl (lv_at hl 0 rfl) ?_
  refine va_get (D := (dC, dI)) (ci := 12) (v := .ref (h 6)) (C := RX11) (T := TX11) (N := 14) hx hb hts hinX11 hown hK hP 0 rfl rfl 5 (by decide) (hts (.fieldLink RX11 31 "LogRiver" "tape" "LLogRiver$Tape;") (by decide +kernel)) (fun _ h9 => h9) rfl dX11_feed_1 ?_
  refine va_get (D := (dC, dI)) (ci := 10) (v := .int 0) (C := RX9) (T := TX9) (N := 2) hx hb hts hinX9 hown hK hP 1 rfl rfl 1 (by decide) (hts (.fieldLink RX11 145 "LogRiver$Tape" "length" "I") (by decide +kernel)) (fun _ h9 => h9) rfl dX11_feed_4 ?_
  refine lv_sipush (v := 480) hx hb dX11_feed_7 (by decide) ?_
  refine lv_icmp_le (tgt := 15) hx hb dX11_feed_10 (by decide) (fun c_1 => ?_) (fun c_1 => ?_)
  rotate_left
  · exact absurd c_1 (by decide)
  refine lv_aload_n hx hb dX11_feed_15 rfl (lv_at hl 0 rfl) ?_
  refine va_get (D := (dC, dI)) (ci := 12) (v := .ref (h 6)) (C := RX11) (T := TX11) (N := 14) hx hb hts hinX11 hown hK hP 0 rfl rfl 5 (by decide) (hts (.fieldLink RX11 31 "LogRiver" "tape" "LLogRiver$Tape;") (by decide +kernel)) (fun _ h9 => h9) rfl dX11_feed_16 ?_
  refine lv_iload_n hx hb dX11_feed_19 rfl (lv_at hl 1 rfl) ?_
  have hPc := hP.sub (ws' := [(h 6, .inr (10, [.ref (h 7), .int 0])), (h 7, .inl (ca 0, 500, .inl (fun _ => 0)))]) [1, 2] rfl
  have hDc := hD.sub (ws' := [(h 6, .inr (10, [.ref (h 7), .int 0])), (h 7, .inl (ca 0, 500, .inl (fun _ => 0)))]) [1, 2] (by decide) rfl
  have hKc := hK.sub (tys' := [(ca 0, .int)]) [0] rfl
  have hFc := va_free (wc := [(h 6, .inr (10, [.ref (h 7), .int 0])), (h 7, .inl (ca 0, 500, .inl (fun _ => 0)))]) hD hS hA [1, 2] rfl
  refine va_callv (va_runV (As := [.int p0]) (rest := []) ⟨hx, hb, hml, hown, hts⟩ (c_X9_append l hlt e0 dC dI s.heap.size (h 6) (h 7) (ca 0) (fun _ => 0) 0 (by decide) p0) (cwV 1 hts gX11_feed_X9_append rfl rfl rfl (by decide +kernel) ⟨Nat.le_of_ble_eq_true rfl, Nat.le_of_ble_eq_true rfl⟩) (pz_preV [.int p0] hPc hDc hKc hZ hV hT hS hFc (va_recv hKc hPc (ci := 10) (q0 := 0) rfl rfl)) rfl rfl hl.1 rfl (lv_room (Nat.le_of_ble_eq_true rfl)) dX11_feed_20 ⟨Nat.le_of_ble_eq_true rfl, Nat.le_of_ble_eq_true rfl⟩) hS (fun q _ h => hFc q h) hFc (fun u_3 t H locs ht hvm hw_4 hB_5 hz1 hk1 hS => ?_)
  obtain ⟨hP1, hD1⟩ := hB_5
  rw [ht] at hP1
  obtain ⟨hP, hD⟩ := va_join (wr := [(h 0, .inr (12, [.ref (h 1), .ref (h 2), .ref (h 3), .ref (h 4), .ref (h 5), .ref (h 6), .ref (h 8), .ref (h 12), .ref (h 11), .int 0, .int 0, .int (-1), .long 0, .long 0]))]) (w1 := [(h 6, .inr (10, [.ref (h 7), .int (nI (0 + 4))])), (h 7, .inl (ca 0, 500, .inl u_3))]) hP hD [1, 2] [0] rfl rfl (by decide) (by decide) hk1 hFc hP1 hD1
  have hP : va_P (dC, dI) vwCl [(h 0, .inr (12, [.ref (h 1), .ref (h 2), .ref (h 3), .ref (h 4), .ref (h 5), .ref (h 6), .ref (h 8), .ref (h 12), .ref (h 11), .int 0, .int 0, .int (-1), .long 0, .long 0])), (h 6, .inr (10, [.ref (h 7), .int (nI (0 + 4))])), (h 7, .inl (ca 0, 500, .inl u_3))] H := hP
  have hD : va_D A [(h 0, .inr (12, [.ref (h 1), .ref (h 2), .ref (h 3), .ref (h 4), .ref (h 5), .ref (h 6), .ref (h 8), .ref (h 12), .ref (h 11), .int 0, .int 0, .int (-1), .long 0, .long 0])), (h 6, .inr (10, [.ref (h 7), .int (nI (0 + 4))])), (h 7, .inl (ca 0, 500, .inl u_3))] := hD
  refine lv_aload_n hx hb dX11_feed_23 rfl (lv_at hl 0 rfl) ?_
  refine va_get (D := (dC, dI)) (ci := 12) (v := .ref (h 6)) (C := RX11) (T := TX11) (N := 14) hx hb hts hinX11 hown hK hP 0 rfl rfl 5 (by decide) (hts (.fieldLink RX11 31 "LogRiver" "tape" "LLogRiver$Tape;") (by decide +kernel)) (fun _ h9 => h9) rfl dX11_feed_24 ?_
  refine lv_iload_n hx hb dX11_feed_27 rfl (lv_at hl 2 rfl) ?_
  have hPc := hP.sub (ws' := [(h 6, .inr (10, [.ref (h 7), .int (nI (0 + 4))])), (h 7, .inl (ca 0, 500, .inl u_3))]) [1, 2] rfl
  have hDc := hD.sub (ws' := [(h 6, .inr (10, [.ref (h 7), .int (nI (0 + 4))])), (h 7, .inl (ca 0, 500, .inl u_3))]) [1, 2] (by decide) rfl
  have hKc := hK.sub (tys' := [(ca 0, .int)]) [0] rfl
  have hFc := va_free (wc := [(h 6, .inr (10, [.ref (h 7), .int (nI (0 + 4))])), (h 7, .inl (ca 0, 500, .inl u_3))]) hD hS hA [1, 2] rfl
  refine va_callv (va_runV (As := [.int p1]) (rest := []) ⟨hx, hb, hml, hown, hts⟩ (c_X9_append l hlt e0 dC dI H.size (h 6) (h 7) (ca 0) u_3 (0 + 4) (by decide) p1) (cwV 1 hts gX11_feed_X9_append rfl rfl rfl (by decide +kernel) ⟨Nat.le_of_ble_eq_true rfl, Nat.le_of_ble_eq_true rfl⟩) (pz_preV [.int p1] hPc hDc hKc hZ hV hT hS hFc (va_recv hKc hPc (ci := 10) (q0 := 0) rfl rfl)) rfl rfl hl.1 rfl (lv_room (Nat.le_of_ble_eq_true rfl)) dX11_feed_28 ⟨Nat.le_of_ble_eq_true rfl, Nat.le_of_ble_eq_true rfl⟩) hS (fun q _ h => hFc q h) hFc (fun u_7 t H locs ht hvm hw_8 hB_9 hz1 hk1 hS => ?_)
  obtain ⟨hP1, hD1⟩ := hB_9
  rw [ht] at hP1
  obtain ⟨hP, hD⟩ := va_join (wr := [(h 0, .inr (12, [.ref (h 1), .ref (h 2), .ref (h 3), .ref (h 4), .ref (h 5), .ref (h 6), .ref (h 8), .ref (h 12), .ref (h 11), .int 0, .int 0, .int (-1), .long 0, .long 0]))]) (w1 := [(h 6, .inr (10, [.ref (h 7), .int (nI ((0 + 4) + 4))])), (h 7, .inl (ca 0, 500, .inl u_7))]) hP hD [1, 2] [0] rfl rfl (by decide) (by decide) hk1 hFc hP1 hD1
  have hP : va_P (dC, dI) vwCl [(h 0, .inr (12, [.ref (h 1), .ref (h 2), .ref (h 3), .ref (h 4), .ref (h 5), .ref (h 6), .ref (h 8), .ref (h 12), .ref (h 11), .int 0, .int 0, .int (-1), .long 0, .long 0])), (h 6, .inr (10, [.ref (h 7), .int (nI ((0 + 4) + 4))])), (h 7, .inl (ca 0, 500, .inl u_7))] H := hP
  have hD : va_D A [(h 0, .inr (12, [.ref (h 1), .ref (h 2), .ref (h 3), .ref (h 4), .ref (h 5), .ref (h 6), .ref (h 8), .ref (h 12), .ref (h 11), .int 0, .int 0, .int (-1), .long 0, .long 0])), (h 6, .inr (10, [.ref (h 7), .int (nI ((0 + 4) + 4))])), (h 7, .inl (ca 0, 500, .inl u_7))] := hD
  refine lv_aload_n hx hb dX11_feed_31 rfl (lv_at hl 0 rfl) ?_
  refine va_get (D := (dC, dI)) (ci := 12) (v := .ref (h 6)) (C := RX11) (T := TX11) (N := 14) hx hb hts hinX11 hown hK hP 0 rfl rfl 5 (by decide) (hts (.fieldLink RX11 31 "LogRiver" "tape" "LLogRiver$Tape;") (by decide +kernel)) (fun _ h9 => h9) rfl dX11_feed_32 ?_
  refine lv_iload_n hx hb dX11_feed_35 rfl (lv_at hl 3 rfl) ?_
  have hPc := hP.sub (ws' := [(h 6, .inr (10, [.ref (h 7), .int (nI ((0 + 4) + 4))])), (h 7, .inl (ca 0, 500, .inl u_7))]) [1, 2] rfl
  have hDc := hD.sub (ws' := [(h 6, .inr (10, [.ref (h 7), .int (nI ((0 + 4) + 4))])), (h 7, .inl (ca 0, 500, .inl u_7))]) [1, 2] (by decide) rfl
  have hKc := hK.sub (tys' := [(ca 0, .int)]) [0] rfl
  have hFc := va_free (wc := [(h 6, .inr (10, [.ref (h 7), .int (nI ((0 + 4) + 4))])), (h 7, .inl (ca 0, 500, .inl u_7))]) hD hS hA [1, 2] rfl
  refine va_callv (va_runV (As := [.int p2]) (rest := []) ⟨hx, hb, hml, hown, hts⟩ (c_X9_append l hlt e0 dC dI H.size (h 6) (h 7) (ca 0) u_7 ((0 + 4) + 4) (by decide) p2) (cwV 1 hts gX11_feed_X9_append rfl rfl rfl (by decide +kernel) ⟨Nat.le_of_ble_eq_true rfl, Nat.le_of_ble_eq_true rfl⟩) (pz_preV [.int p2] hPc hDc hKc hZ hV hT hS hFc (va_recv hKc hPc (ci := 10) (q0 := 0) rfl rfl)) rfl rfl hl.1 rfl (lv_room (Nat.le_of_ble_eq_true rfl)) dX11_feed_36 ⟨Nat.le_of_ble_eq_true rfl, Nat.le_of_ble_eq_true rfl⟩) hS (fun q _ h => hFc q h) hFc (fun u_11 t H locs ht hvm hw_12 hB_13 hz1 hk1 hS => ?_)
  obtain ⟨hP1, hD1⟩ := hB_13
  rw [ht] at hP1
  obtain ⟨hP, hD⟩ := va_join (wr := [(h 0, .inr (12, [.ref (h 1), .ref (h 2), .ref (h 3), .ref (h 4), .ref (h 5), .ref (h 6), .ref (h 8), .ref (h 12), .ref (h 11), .int 0, .int 0, .int (-1), .long 0, .long 0]))]) (w1 := [(h 6, .inr (10, [.ref (h 7), .int (nI (((0 + 4) + 4) + 4))])), (h 7, .inl (ca 0, 500, .inl u_11))]) hP hD [1, 2] [0] rfl rfl (by decide) (by decide) hk1 hFc hP1 hD1
  have hP : va_P (dC, dI) vwCl [(h 0, .inr (12, [.ref (h 1), .ref (h 2), .ref (h 3), .ref (h 4), .ref (h 5), .ref (h 6), .ref (h 8), .ref (h 12), .ref (h 11), .int 0, .int 0, .int (-1), .long 0, .long 0])), (h 6, .inr (10, [.ref (h 7), .int (nI (((0 + 4) + 4) + 4))])), (h 7, .inl (ca 0, 500, .inl u_11))] H := hP
  have hD : va_D A [(h 0, .inr (12, [.ref (h 1), .ref (h 2), .ref (h 3), .ref (h 4), .ref (h 5), .ref (h 6), .ref (h 8), .ref (h 12), .ref (h 11), .int 0, .int 0, .int (-1), .long 0, .long 0])), (h 6, .inr (10, [.ref (h 7), .int (nI (((0 + 4) + 4) + 4))])), (h 7, .inl (ca 0, 500, .inl u_11))] := hD
  refine lv_aload_n hx hb dX11_feed_39 rfl (lv_at hl 0 rfl) ?_
  refine va_get (D := (dC, dI)) (ci := 12) (v := .ref (h 6)) (C := RX11) (T := TX11) (N := 14) hx hb hts hinX11 hown hK hP 0 rfl rfl 5 (by decide) (hts (.fieldLink RX11 31 "LogRiver" "tape" "LLogRiver$Tape;") (by decide +kernel)) (fun _ h9 => h9) rfl dX11_feed_40 ?_
  refine lv_iload hx hb dX11_feed_43 (lv_at hl 4 rfl) ?_
  have hPc := hP.sub (ws' := [(h 6, .inr (10, [.ref (h 7), .int (nI (((0 + 4) + 4) + 4))])), (h 7, .inl (ca 0, 500, .inl u_11))]) [1, 2] rfl
  have hDc := hD.sub (ws' := [(h 6, .inr (10, [.ref (h 7), .int (nI (((0 + 4) + 4) + 4))])), (h 7, .inl (ca 0, 500, .inl u_11))]) [1, 2] (by decide) rfl
  have hKc := hK.sub (tys' := [(ca 0, .int)]) [0] rfl
  have hFc := va_free (wc := [(h 6, .inr (10, [.ref (h 7), .int (nI (((0 + 4) + 4) + 4))])), (h 7, .inl (ca 0, 500, .inl u_11))]) hD hS hA [1, 2] rfl
  refine va_callv (va_runV (As := [.int p3]) (rest := []) ⟨hx, hb, hml, hown, hts⟩ (c_X9_append l hlt e0 dC dI H.size (h 6) (h 7) (ca 0) u_11 (((0 + 4) + 4) + 4) (by decide) p3) (cwV 1 hts gX11_feed_X9_append rfl rfl rfl (by decide +kernel) ⟨Nat.le_of_ble_eq_true rfl, Nat.le_of_ble_eq_true rfl⟩) (pz_preV [.int p3] hPc hDc hKc hZ hV hT hS hFc (va_recv hKc hPc (ci := 10) (q0 := 0) rfl rfl)) rfl rfl hl.1 rfl (lv_room (Nat.le_of_ble_eq_true rfl)) dX11_feed_45 ⟨Nat.le_of_ble_eq_true rfl, Nat.le_of_ble_eq_true rfl⟩) hS (fun q _ h => hFc q h) hFc (fun u_15 t H locs ht hvm hw_16 hB_17 hz1 hk1 hS => ?_)
  obtain ⟨hP1, hD1⟩ := hB_17
  rw [ht] at hP1
  obtain ⟨hP, hD⟩ := va_join (wr := [(h 0, .inr (12, [.ref (h 1), .ref (h 2), .ref (h 3), .ref (h 4), .ref (h 5), .ref (h 6), .ref (h 8), .ref (h 12), .ref (h 11), .int 0, .int 0, .int (-1), .long 0, .long 0]))]) (w1 := [(h 6, .inr (10, [.ref (h 7), .int (nI ((((0 + 4) + 4) + 4) + 4))])), (h 7, .inl (ca 0, 500, .inl u_15))]) hP hD [1, 2] [0] rfl rfl (by decide) (by decide) hk1 hFc hP1 hD1
  have hP : va_P (dC, dI) vwCl [(h 0, .inr (12, [.ref (h 1), .ref (h 2), .ref (h 3), .ref (h 4), .ref (h 5), .ref (h 6), .ref (h 8), .ref (h 12), .ref (h 11), .int 0, .int 0, .int (-1), .long 0, .long 0])), (h 6, .inr (10, [.ref (h 7), .int (nI ((((0 + 4) + 4) + 4) + 4))])), (h 7, .inl (ca 0, 500, .inl u_15))] H := hP
  have hD : va_D A [(h 0, .inr (12, [.ref (h 1), .ref (h 2), .ref (h 3), .ref (h 4), .ref (h 5), .ref (h 6), .ref (h 8), .ref (h 12), .ref (h 11), .int 0, .int 0, .int (-1), .long 0, .long 0])), (h 6, .inr (10, [.ref (h 7), .int (nI ((((0 + 4) + 4) + 4) + 4))])), (h 7, .inl (ca 0, 500, .inl u_15))] := hD
  refine lv_aload_n hx hb dX11_feed_48 rfl (lv_at hl 0 rfl) ?_
  refine va_get (D := (dC, dI)) (ci := 12) (v := .ref (h 6)) (C := RX11) (T := TX11) (N := 14) hx hb hts hinX11 hown hK hP 0 rfl rfl 5 (by decide) (hts (.fieldLink RX11 31 "LogRiver" "tape" "LLogRiver$Tape;") (by decide +kernel)) (fun _ h9 => h9) rfl dX11_feed_49 ?_
  refine lv_iload hx hb dX11_feed_52 (lv_at hl 5 rfl) ?_
  have hPc := hP.sub (ws' := [(h 6, .inr (10, [.ref (h 7), .int (nI ((((0 + 4) + 4) + 4) + 4))])), (h 7, .inl (ca 0, 500, .inl u_15))]) [1, 2] rfl
  have hDc := hD.sub (ws' := [(h 6, .inr (10, [.ref (h 7), .int (nI ((((0 + 4) + 4) + 4) + 4))])), (h 7, .inl (ca 0, 500, .inl u_15))]) [1, 2] (by decide) rfl
  have hKc := hK.sub (tys' := [(ca 0, .int)]) [0] rfl
  have hFc := va_free (wc := [(h 6, .inr (10, [.ref (h 7), .int (nI ((((0 + 4) + 4) + 4) + 4))])), (h 7, .inl (ca 0, 500, .inl u_15))]) hD hS hA [1, 2] rfl
  refine va_callv (va_runV (As := [.int p4]) (rest := []) ⟨hx, hb, hml, hown, hts⟩ (c_X9_append l hlt e0 dC dI H.size (h 6) (h 7) (ca 0) u_15 ((((0 + 4) + 4) + 4) + 4) (by decide) p4) (cwV 1 hts gX11_feed_X9_append rfl rfl rfl (by decide +kernel) ⟨Nat.le_of_ble_eq_true rfl, Nat.le_of_ble_eq_true rfl⟩) (pz_preV [.int p4] hPc hDc hKc hZ hV hT hS hFc (va_recv hKc hPc (ci := 10) (q0 := 0) rfl rfl)) rfl rfl hl.1 rfl (lv_room (Nat.le_of_ble_eq_true rfl)) dX11_feed_54 ⟨Nat.le_of_ble_eq_true rfl, Nat.le_of_ble_eq_true rfl⟩) hS (fun q _ h => hFc q h) hFc (fun u_19 t H locs ht hvm hw_20 hB_21 hz1 hk1 hS => ?_)
  obtain ⟨hP1, hD1⟩ := hB_21
  rw [ht] at hP1
  obtain ⟨hP, hD⟩ := va_join (wr := [(h 0, .inr (12, [.ref (h 1), .ref (h 2), .ref (h 3), .ref (h 4), .ref (h 5), .ref (h 6), .ref (h 8), .ref (h 12), .ref (h 11), .int 0, .int 0, .int (-1), .long 0, .long 0]))]) (w1 := [(h 6, .inr (10, [.ref (h 7), .int (nI (((((0 + 4) + 4) + 4) + 4) + 4))])), (h 7, .inl (ca 0, 500, .inl u_19))]) hP hD [1, 2] [0] rfl rfl (by decide) (by decide) hk1 hFc hP1 hD1
  have hP : va_P (dC, dI) vwCl [(h 0, .inr (12, [.ref (h 1), .ref (h 2), .ref (h 3), .ref (h 4), .ref (h 5), .ref (h 6), .ref (h 8), .ref (h 12), .ref (h 11), .int 0, .int 0, .int (-1), .long 0, .long 0])), (h 6, .inr (10, [.ref (h 7), .int (nI (((((0 + 4) + 4) + 4) + 4) + 4))])), (h 7, .inl (ca 0, 500, .inl u_19))] H := hP
  have hD : va_D A [(h 0, .inr (12, [.ref (h 1), .ref (h 2), .ref (h 3), .ref (h 4), .ref (h 5), .ref (h 6), .ref (h 8), .ref (h 12), .ref (h 11), .int 0, .int 0, .int (-1), .long 0, .long 0])), (h 6, .inr (10, [.ref (h 7), .int (nI (((((0 + 4) + 4) + 4) + 4) + 4))])), (h 7, .inl (ca 0, 500, .inl u_19))] := hD
  refine lv_aload_n hx hb dX11_feed_57 rfl (lv_at hl 0 rfl) ?_
  refine va_get (D := (dC, dI)) (ci := 12) (v := .ref (h 6)) (C := RX11) (T := TX11) (N := 14) hx hb hts hinX11 hown hK hP 0 rfl rfl 5 (by decide) (hts (.fieldLink RX11 31 "LogRiver" "tape" "LLogRiver$Tape;") (by decide +kernel)) (fun _ h9 => h9) rfl dX11_feed_58 ?_
  refine va_get (D := (dC, dI)) (ci := 10) (v := .int (nI (((((0 + 4) + 4) + 4) + 4) + 4))) (C := RX9) (T := TX9) (N := 2) hx hb hts hinX9 hown hK hP 1 rfl rfl 1 (by decide) (hts (.fieldLink RX11 145 "LogRiver$Tape" "length" "I") (by decide +kernel)) (fun _ h9 => h9) rfl dX11_feed_61 ?_
  refine W.widen (k := 0) (n := 0) (Nat.le_of_ble_eq_true rfl) (Nat.le_of_ble_eq_true rfl) ?_
  exact W.iret (v := nI (((((0 + 4) + 4) + 4) + 4) + 4)) hx hb hr (fun t ht hW => ⟨⟨nI (((((0 + 4) + 4) + 4) + 4) + 4), (), rfl, rfl, trivial⟩, hS.F ht⟩) hS.2.2 dX11_feed_64

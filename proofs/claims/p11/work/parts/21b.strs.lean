theorem dJ0_charAt_5068e_0 : decode cJ0_charAt_5068e 0 = .ok (.aload_n 0, 1) := by decide +kernel
theorem dJ0_charAt_5068e_1 : decode cJ0_charAt_5068e 1 = .ok (.invokevirtual 492, 3) := by decide +kernel
theorem dJ0_charAt_5068e_4 : decode cJ0_charAt_5068e 4 = .ok (.ifCond .eq 12, 3) := by decide +kernel
theorem dJ0_charAt_5068e_7 : decode cJ0_charAt_5068e 7 = .ok (.aload_n 0, 1) := by decide +kernel
theorem dJ0_charAt_5068e_8 : decode cJ0_charAt_5068e 8 = .ok (.getfield 9, 3) := by decide +kernel
theorem dJ0_charAt_5068e_11 : decode cJ0_charAt_5068e 11 = .ok (.iload_n 1, 1) := by decide +kernel
theorem dJ0_charAt_5068e_12 : decode cJ0_charAt_5068e 12 = .ok (.invokestatic 495, 3) := by decide +kernel
theorem dJ0_charAt_5068e_15 : decode cJ0_charAt_5068e 15 = .ok (.ireturn, 1) := by decide +kernel
theorem dJ0_checkIndex_df160_0 : decode cJ0_checkIndex_df160 0 = .ok (.iload_n 0, 1) := by decide +kernel
theorem dJ0_checkIndex_df160_1 : decode cJ0_checkIndex_df160 1 = .ok (.iload_n 1, 1) := by decide +kernel
theorem dJ0_checkIndex_df160_2 : decode cJ0_checkIndex_df160 2 = .ok (.getstatic 1053, 3) := by decide +kernel
theorem dJ0_checkIndex_df160_5 : decode cJ0_checkIndex_df160 5 = .ok (.invokestatic 1059, 3) := by decide +kernel
theorem dJ0_checkIndex_df160_8 : decode cJ0_checkIndex_df160 8 = .ok (.pop, 1) := by decide +kernel
theorem dJ0_checkIndex_df160_9 : decode cJ0_checkIndex_df160 9 = .ok (.return_, 1) := by decide +kernel
theorem dJ0_coder_7d493_0 : decode cJ0_coder_7d493 0 = .ok (.getstatic 38, 3) := by decide +kernel
theorem dJ0_coder_7d493_3 : decode cJ0_coder_7d493 3 = .ok (.ifCond .eq 10, 3) := by decide +kernel
theorem dJ0_coder_7d493_6 : decode cJ0_coder_7d493 6 = .ok (.aload_n 0, 1) := by decide +kernel
theorem dJ0_coder_7d493_7 : decode cJ0_coder_7d493 7 = .ok (.getfield 15, 3) := by decide +kernel
theorem dJ0_coder_7d493_10 : decode cJ0_coder_7d493 10 = .ok (.goto 4, 3) := by decide +kernel
theorem dJ0_coder_7d493_14 : decode cJ0_coder_7d493 14 = .ok (.ireturn, 1) := by decide +kernel
theorem dJ0_isLatin1_aae02_0 : decode cJ0_isLatin1_aae02 0 = .ok (.getstatic 38, 3) := by decide +kernel
theorem dJ0_isLatin1_aae02_3 : decode cJ0_isLatin1_aae02 3 = .ok (.ifCond .eq 14, 3) := by decide +kernel
theorem dJ0_isLatin1_aae02_6 : decode cJ0_isLatin1_aae02 6 = .ok (.aload_n 0, 1) := by decide +kernel
theorem dJ0_isLatin1_aae02_7 : decode cJ0_isLatin1_aae02 7 = .ok (.getfield 15, 3) := by decide +kernel
theorem dJ0_isLatin1_aae02_10 : decode cJ0_isLatin1_aae02 10 = .ok (.ifCond .ne 7, 3) := by decide +kernel
theorem dJ0_isLatin1_aae02_13 : decode cJ0_isLatin1_aae02 13 = .ok (.iconst 1, 1) := by decide +kernel
theorem dJ0_isLatin1_aae02_14 : decode cJ0_isLatin1_aae02 14 = .ok (.goto 4, 3) := by decide +kernel
theorem dJ0_isLatin1_aae02_18 : decode cJ0_isLatin1_aae02 18 = .ok (.ireturn, 1) := by decide +kernel
theorem dJ0_length_8abf5_0 : decode cJ0_length_8abf5 0 = .ok (.aload_n 0, 1) := by decide +kernel
theorem dJ0_length_8abf5_1 : decode cJ0_length_8abf5 1 = .ok (.getfield 9, 3) := by decide +kernel
theorem dJ0_length_8abf5_4 : decode cJ0_length_8abf5 4 = .ok (.arraylength, 1) := by decide +kernel
theorem dJ0_length_8abf5_5 : decode cJ0_length_8abf5 5 = .ok (.aload_n 0, 1) := by decide +kernel
theorem dJ0_length_8abf5_6 : decode cJ0_length_8abf5 6 = .ok (.invokevirtual 335, 3) := by decide +kernel
theorem dJ0_length_8abf5_9 : decode cJ0_length_8abf5 9 = .ok (.ishr, 1) := by decide +kernel
theorem dJ0_length_8abf5_10 : decode cJ0_length_8abf5 10 = .ok (.ireturn, 1) := by decide +kernel
theorem dJ1_charAt_3b067_0 : decode cJ1_charAt_3b067 0 = .ok (.iload_n 1, 1) := by decide +kernel
theorem dJ1_charAt_3b067_1 : decode cJ1_charAt_3b067 1 = .ok (.aload_n 0, 1) := by decide +kernel
theorem dJ1_charAt_3b067_2 : decode cJ1_charAt_3b067 2 = .ok (.arraylength, 1) := by decide +kernel
theorem dJ1_charAt_3b067_3 : decode cJ1_charAt_3b067 3 = .ok (.invokestatic 9, 3) := by decide +kernel
theorem dJ1_charAt_3b067_6 : decode cJ1_charAt_3b067 6 = .ok (.aload_n 0, 1) := by decide +kernel
theorem dJ1_charAt_3b067_7 : decode cJ1_charAt_3b067 7 = .ok (.iload_n 1, 1) := by decide +kernel
theorem dJ1_charAt_3b067_8 : decode cJ1_charAt_3b067 8 = .ok (.baload, 1) := by decide +kernel
theorem dJ1_charAt_3b067_9 : decode cJ1_charAt_3b067 9 = .ok (.sipush 255, 3) := by decide +kernel
theorem dJ1_charAt_3b067_12 : decode cJ1_charAt_3b067 12 = .ok (.iand, 1) := by decide +kernel
theorem dJ1_charAt_3b067_13 : decode cJ1_charAt_3b067 13 = .ok (.i2c, 1) := by decide +kernel
theorem dJ1_charAt_3b067_14 : decode cJ1_charAt_3b067 14 = .ok (.ireturn, 1) := by decide +kernel
theorem dJ3_checkIndex_8e157_0 : decode cJ3_checkIndex_8e157 0 = .ok (.iload_n 0, 1) := by decide +kernel
theorem dJ3_checkIndex_8e157_1 : decode cJ3_checkIndex_8e157 1 = .ok (.ifCond .lt 8, 3) := by decide +kernel
theorem dJ3_checkIndex_8e157_4 : decode cJ3_checkIndex_8e157 4 = .ok (.iload_n 0, 1) := by decide +kernel
theorem dJ3_checkIndex_8e157_5 : decode cJ3_checkIndex_8e157 5 = .ok (.iload_n 1, 1) := by decide +kernel
theorem dJ3_checkIndex_8e157_6 : decode cJ3_checkIndex_8e157 6 = .ok (.if_icmp .lt 10, 3) := by decide +kernel
theorem dJ3_checkIndex_8e157_16 : decode cJ3_checkIndex_8e157 16 = .ok (.iload_n 0, 1) := by decide +kernel
theorem dJ3_checkIndex_8e157_17 : decode cJ3_checkIndex_8e157 17 = .ok (.ireturn, 1) := by decide +kernel
/-! String.length() and String.charAt(int) of the words of the law's texts -/
abbrev ks_Qi (v : Int32) : Array Value → State → Outcome → State → Prop := va_Qi (S := Unit) (fun r _ => r = v) (fun _ _ => True) (fun _ => False)
abbrev ks_Qv : Array Value → State → Outcome → State → Prop := va_Qv (S := Unit) (fun _ => True) (fun _ _ => True) (fun _ => False)
abbrev ks_M (l : Launch) (y : MethodName) (cc : ByteArray) (n : Nat) (ret : Option FieldType) (fr lo : Nat) (av : List Value) (adK adV : Nat → Nat) (A : Nat → Prop) (Qc : Array Value → State → Outcome → State → Prop) : Prop :=
  Met l y (kt_w y cc n ret) { frames := fr, cells := 0, slots := 0, locals := lo } (va_Pc av (fun U => ks_S adK adV A U U.heap)) Qc 0 0 (fun _ => False)
theorem ks_blind {adK adV : Nat → Nat} {A : Nat → Prop} {av : List Value} : FrameBlind (va_Pc av (fun U => ks_S adK adV A U U.heap)) := fun a U g mk q => ⟨q.1, ks_S.moved (u := U) (U := U.calling g mk a) (Vm.Alike.refl U.vm) q.2⟩
theorem ks_pre {adK adV : Nat → Nat} {A : Nat → Prop} {s : State} {H : Heap} {locs : List Loc} (hT : ks_S adK adV A s s.heap) (hS : va_S A s.heap H locs) : ∀ U : State, U.heap = H → s.WarmedH U.vm → ks_S adK adV A U U.heap := fun U hU hW => by rw [hU]; exact (hT.kept hS.2.1).moved hW.alike
theorem ks_recv {adK adV : Nat → Nat} {A : Nat → Prop} {s : State} {H : Heap} {locs : List Loc} {i : Nat} (hT : ks_S adK adV A s s.heap) (hS : va_S A s.heap H locs) (hi : i < 12) : ∃ cell : Cell, H[adK i]? = some cell ∧ cell.vm.isStatics = false ∧ s.vm.findClass "java/lang/String" = some cell.cls := by
  obtain ⟨cell, h1, h2, h3, -⟩ := (hT.1 i hi).1.kept hS.2.1
  exact ⟨cell, h1, h2, h3⟩
theorem ks_F {s t : State} {H : Heap} {locs : List Loc} (hS : va_S (fun _ => False) s.heap H locs) (ht : t.heap = H) : va_F (fun _ => False) s t := hS.F ht
theorem ks_enter {l : Launch} {adK adV : Nat → Nat} {A : Nat → Prop} {y : MethodName} {cc : ByteArray} {n : Nat} {ret : Option FieldType} {fr lo : Nat} {av : List Value} {Qc : Array Value → State → Outcome → State → Prop} {own : String} (hy : plainName y.cls = true) (hyc : y.cls = own) (hn : (lg_sl av).length ≤ n)
    (body : ∀ (p : Program) (e : Env) (s : State) (m : MethodId) (below : List Frame) (meth : Method) (c : Code) (ls : Array Slot), CallFix p m c cc n s av.toArray kt_ own → meth.sig.returnType = ret → meth.locks = false → ks_S adK adV A s s.heap → lv_has ls n (lv_args 0 av) →
      W p l e { frames := fr, cells := 0, slots := 0, locals := lo } s m av.toArray below meth c s.heap [] 0 0 (MQ below Qc av.toArray s 0 0 (fun _ => False)) (F0 m 0 ls [])) : ks_M l y cc n ret fr lo av adK adV A Qc := by
  refine Met.ofW (cc := cc) (maxL := n) (ret := ret) hy rfl ?_
  intro p e s m args below meth c s₁ B hml hv
  obtain ⟨rfl, hT⟩ := hv
  have hts := atoms_spec (ws := kt_w y cc n ret) B.pre
  have hown : s.vm.findClass y.cls = some m.cls := findClass_of_methodNamed B.named
  rw [hyc] at hown
  have hl := lv_entry av (n := n) hn
  rw [lg_entry_eq]
  exact body p e s m below meth c _ ⟨B.exec, B.bytes, hml, hown, fun w hw => hts w (List.mem_cons_of_mem _ hw)⟩ B.returns B.notSynchronized hT hl
/-- what a call of such a method leaves: the heap as it was -/
theorem ks_after {A : Nat → Prop} {H0 H H1 : Heap} {locs1 : List Loc} (hz : H.size ≤ H1.size) (hk : ∀ q : Nat, q < H.size → ¬ False → H1[q]? = H[q]?) : ∀ q : Nat, q < H.size → H1[q]? = H[q]? := fun q h => hk q h (fun z => z)
theorem hs_coder (l : Launch) {adK adV : Nat → Nat} {A : Nat → Prop} {i : Nat} (hi : i < 12) : ks_M l yJ0_coder_7d493 cJ0_coder_7d493 1 (some .byte) 0 0 [.ref (adK i)] adK adV A (ks_Qi 0) := by
  refine ks_enter (own := RJ0) (by decide) rfl (Nat.le_of_ble_eq_true rfl) ?_
  intro p e s m below meth c ls F hr hlocks hT hl
  have hl : lv_has ls 1 [(0, .ref (adK i))] := hl
  have hS : va_S A s.heap s.heap [] := va_S.rf
  refine va_gets F.1 F.2.1 hT.2.1 hS F.2.2.2.1 (F.2.2.2.2 _ tw_284) (fun _ h9 => h9) dJ0_coder_7d493_0 ?_
  refine lv_if_eq (tgt := 13) F.1 F.2.1 dJ0_coder_7d493_3 (by decide) (fun c9 => absurd c9 (by decide)) (fun _ => ?_)
  refine lv_aload_n F.1 F.2.1 dJ0_coder_7d493_6 rfl (lv_at hl 0 rfl) ?_
  refine vk_getf F.1 F.2.1 (hT.1 i hi).2.1 hS F.2.2.2.1 (F.2.2.2.2 _ tw_285) (fun _ h9 => h9) dJ0_coder_7d493_7 ?_
  refine lv_goto (tgt := 14) F.1 F.2.1 dJ0_coder_7d493_10 (by decide) ?_
  exact W.zret (v := 0) F.1 F.2.1 hr rfl (fun t ht _ => ⟨⟨0, (), rfl, rfl, trivial⟩, ks_F va_S.rf ht⟩) (fun _ h => nomatch h) dJ0_coder_7d493_14 hlocks
theorem hs_isLatin1 (l : Launch) {adK adV : Nat → Nat} {A : Nat → Prop} {i : Nat} (hi : i < 12) : ks_M l yJ0_isLatin1_aae02 cJ0_isLatin1_aae02 1 (some .boolean) 0 0 [.ref (adK i)] adK adV A (ks_Qi 1) := by
  refine ks_enter (own := RJ0) (by decide) rfl (Nat.le_of_ble_eq_true rfl) ?_
  intro p e s m below meth c ls F hr hlocks hT hl
  have hl : lv_has ls 1 [(0, .ref (adK i))] := hl
  have hS : va_S A s.heap s.heap [] := va_S.rf
  refine va_gets F.1 F.2.1 hT.2.1 hS F.2.2.2.1 (F.2.2.2.2 _ tw_284) (fun _ h9 => h9) dJ0_isLatin1_aae02_0 ?_
  refine lv_if_eq (tgt := 17) F.1 F.2.1 dJ0_isLatin1_aae02_3 (by decide) (fun c9 => absurd c9 (by decide)) (fun _ => ?_)
  refine lv_aload_n F.1 F.2.1 dJ0_isLatin1_aae02_6 rfl (lv_at hl 0 rfl) ?_
  refine vk_getf F.1 F.2.1 (hT.1 i hi).2.1 hS F.2.2.2.1 (F.2.2.2.2 _ tw_285) (fun _ h9 => h9) dJ0_isLatin1_aae02_7 ?_
  refine lv_if_ne (tgt := 17) F.1 F.2.1 dJ0_isLatin1_aae02_10 (by decide) (fun c9 => absurd rfl c9) (fun _ => ?_)
  refine lv_iconst (v := 1) F.1 F.2.1 dJ0_isLatin1_aae02_13 (by decide) ?_
  refine lv_goto (tgt := 18) F.1 F.2.1 dJ0_isLatin1_aae02_14 (by decide) ?_
  exact W.zret (v := 1) F.1 F.2.1 hr rfl (fun t ht _ => ⟨⟨1, (), rfl, rfl, trivial⟩, ks_F va_S.rf ht⟩) (fun _ h => nomatch h) dJ0_isLatin1_aae02_18 hlocks
theorem ks_shr : ∀ i : Nat, i < 12 → Int32.ofNat (ks_len.getD i 0) >>> ((0 : Int32) &&& 31) = nI (ks_len.getD i 0) := by decide
theorem hs_length (l : Launch) {adK adV : Nat → Nat} {A : Nat → Prop} {i : Nat} (hi : i < 12) : ks_M l yJ0_length_8abf5 cJ0_length_8abf5 1 (some .int) 1 20 [.ref (adK i)] adK adV A (ks_Qi (nI (ks_len.getD i 0))) := by
  refine ks_enter (own := RJ0) (by decide) rfl (Nat.le_of_ble_eq_true rfl) ?_
  intro p e s m below meth c ls F hr hlocks hT hl
  have hl : lv_has ls 1 [(0, .ref (adK i))] := hl
  have hS : va_S A s.heap s.heap [] := va_S.rf
  have hS0 : va_S (fun _ => False) s.heap s.heap [] := va_S.rf
  refine lv_aload_n F.1 F.2.1 dJ0_length_8abf5_0 rfl (lv_at hl 0 rfl) ?_
  refine vk_getf F.1 F.2.1 (hT.1 i hi).2.2.1 hS F.2.2.2.1 (F.2.2.2.2 _ tw_286) (fun _ h9 => h9) dJ0_length_8abf5_1 ?_
  refine va_tlen F.1 F.2.1 (hT.1 i hi).2.2.2 hS rfl dJ0_length_8abf5_4 ?_
  refine lv_aload_n F.1 F.2.1 dJ0_length_8abf5_5 rfl (lv_at hl 0 rfl) ?_
  refine va_calli (va_runV (As := []) (rest := [.int (Int32.ofNat (ks_len.getD i 0))]) F (hs_coder l (adV := adV) (A := A) hi) (cwV 0 F.2.2.2.2 (kt_V tw_287 tw_288 tw_289 tw_290 tw_291) rfl rfl rfl (by decide +kernel) ⟨Nat.le_of_ble_eq_true rfl, Nat.le_of_ble_eq_true rfl⟩) ⟨ks_blind, ks_recv hT hS hi, fun U hU hW9 => ⟨rfl, ks_pre hT hS U hU hW9⟩⟩ rfl rfl hl.1 rfl (lv_room (by simp [Value.category])) dJ0_length_8abf5_6 ⟨Nat.zero_le _, Nat.zero_le _⟩) hS0 (fun _ _ h => h) (fun _ h => h) (fun r u t H1 locs1 ht hvm hp _ hz hk hS1 => ?_)
  subst hp
  refine lv_ishr F.1 F.2.1 dJ0_length_8abf5_9 ?_
  refine lv_topi (fun v ev => ?_)
  have ev := ev.trans (ks_shr i hi)
  exact W.iret (v := v) F.1 F.2.1 hr (fun t9 ht9 _ => ⟨⟨v, (), rfl, ev, trivial⟩, ks_F hS1 ht9⟩) hS1.2.2 dJ0_length_8abf5_10 hlocks
theorem hs_ckI (l : Launch) {adK adV : Nat → Nat} {A : Nat → Prop} {k n : Int32} {v : Value} (hc : v.category = 1) (h0 : ¬ k < 0) (h1 : k < n) : ks_M l yJ3_checkIndex_8e157 cJ3_checkIndex_8e157 3 (some .int) 0 0 [.int k, .int n, v] adK adV A (ks_Qi k) := by
  refine ks_enter (own := RJ3) (by decide) rfl (by cases v <;> first | exact Nat.le_of_ble_eq_true rfl | (cases hc)) ?_
  intro p e s m below meth c ls F hr hlocks hT hl
  have hl : lv_has ls 3 [(0, .int k), (1, .int n), (2, v)] := hl
  refine lv_iload_n F.1 F.2.1 dJ3_checkIndex_8e157_0 rfl (lv_at hl 0 rfl) ?_
  refine lv_if_lt (tgt := 9) F.1 F.2.1 dJ3_checkIndex_8e157_1 (by decide) (fun c9 => absurd c9 h0) (fun _ => ?_)
  refine lv_iload_n F.1 F.2.1 dJ3_checkIndex_8e157_4 rfl (lv_at hl 0 rfl) ?_
  refine lv_iload_n F.1 F.2.1 dJ3_checkIndex_8e157_5 rfl (lv_at hl 1 rfl) ?_
  refine lv_icmp_lt (tgt := 16) F.1 F.2.1 dJ3_checkIndex_8e157_6 (by decide) (fun _ => ?_) (fun c9 => absurd h1 c9)
  refine lv_iload_n F.1 F.2.1 dJ3_checkIndex_8e157_16 rfl (lv_at hl 0 rfl) ?_
  exact W.iret (v := k) F.1 F.2.1 hr (fun t9 ht9 _ => ⟨⟨k, (), rfl, rfl, trivial⟩, ks_F va_S.rf ht9⟩) (fun _ h => nomatch h) dJ3_checkIndex_8e157_17 hlocks
theorem hs_ck (l : Launch) {adK adV : Nat → Nat} {A : Nat → Prop} {k n : Int32} (h0 : ¬ k < 0) (h1 : k < n) : ks_M l yJ0_checkIndex_df160 cJ0_checkIndex_df160 2 none 1 22 [.int k, .int n] adK adV A ks_Qv := by
  refine ks_enter (own := RJ0) (by decide) rfl (Nat.le_of_ble_eq_true rfl) ?_
  intro p e s m below meth c ls F hr hlocks hT hl
  have hl : lv_has ls 2 [(0, .int k), (1, .int n)] := hl
  have hS : va_S A s.heap s.heap [] := va_S.rf
  have hS0 : va_S (fun _ => False) s.heap s.heap [] := va_S.rf
  refine lv_iload_n F.1 F.2.1 dJ0_checkIndex_df160_0 rfl (lv_at hl 0 rfl) ?_
  refine lv_iload_n F.1 F.2.1 dJ0_checkIndex_df160_1 rfl (lv_at hl 1 rfl) ?_
  have go : ∀ v : Value, v.category = 1 → W p l e { frames := 1, cells := 0, slots := 0, locals := 22 } s m [Value.int k, Value.int n].toArray below meth c s.heap [] 0 0 (MQ below ks_Qv [Value.int k, Value.int n].toArray s 0 0 (fun _ => False)) (F0 m 5 ls (v :: .int n :: .int k :: [])) := by
    intro v hc
    refine va_calli (va_runS (As := [.int k, .int n, v]) (rest := []) F (hs_ckI l (adK := adK) (adV := adV) (A := A) hc h0 h1) (va_cwS 3 F.2.2.2.2 (kt_S tw_292 tw_293 tw_294 tw_295) rfl rfl rfl (by decide +kernel) ⟨Nat.le_of_ble_eq_true rfl, Nat.le_of_ble_eq_true rfl⟩) ⟨ks_blind, fun U hU hW9 => ⟨rfl, ks_pre hT hS U hU hW9⟩⟩ rfl rfl hl.1 rfl (lv_room (by simp)) dJ0_checkIndex_df160_5 ⟨Nat.zero_le _, Nat.zero_le _⟩) hS0 (fun _ _ h => h) (fun _ h => h) (fun r u t H1 locs1 ht hvm hp _ hz hk hS1 => ?_)
    refine lv_pop F.1 F.2.1 dJ0_checkIndex_df160_8 rfl ?_
    exact W.vret F.1 F.2.1 hr (fun t9 ht9 _ => ⟨⟨(), rfl, trivial, trivial⟩, ks_F hS1 ht9⟩) hS1.2.2 dJ0_checkIndex_df160_9 hlocks
  rcases hT.2.2 with hz | ⟨t, hz⟩
  · exact va_gets F.1 F.2.1 hz hS F.2.2.2.1 (F.2.2.2.2 _ tw_296) (fun _ h9 => h9) dJ0_checkIndex_df160_2 (go _ rfl)
  · exact va_gets F.1 F.2.1 hz hS F.2.2.2.1 (F.2.2.2.2 _ tw_296) (fun _ h9 => h9) dJ0_checkIndex_df160_2 (go _ rfl)
theorem ks_chr : ∀ i : Nat, i < 12 → ∀ k : Nat, k < ks_len.getD i 0 → ((((ks_byt.getD i []).getD k 0) &&& 255).toUInt32 % 65536).toInt32 = (ks_byt.getD i []).getD k 0 ∧ narrow .char (.int ((ks_byt.getD i []).getD k 0)) = .int ((ks_byt.getD i []).getD k 0) := by decide +kernel
theorem hs_char1 (l : Launch) {adK adV : Nat → Nat} {A : Nat → Prop} {i : Nat} (hi : i < 12) {k : Int32} (hk : vp_in k (ks_len.getD i 0)) : ks_M l yJ1_charAt_3b067 cJ1_charAt_3b067 2 (some .char) 2 43 [.ref (adV i), .int k] adK adV A (ks_Qi ((ks_byt.getD i []).getD k.toNatClampNeg 0)) := by
  refine ks_enter (own := RJ1) (by decide) rfl (Nat.le_of_ble_eq_true rfl) ?_
  intro p e s m below meth c ls F hr hlocks hT hl
  have hl : lv_has ls 2 [(0, .ref (adV i)), (1, .int k)] := hl
  have hS : va_S A s.heap s.heap [] := va_S.rf
  have hS0 : va_S (fun _ => False) s.heap s.heap [] := va_S.rf
  have hlen : ks_len.getD i 0 < 2 ^ 31 := (by decide : ∀ i : Nat, i < 12 → ks_len.getD i 0 < 2 ^ 31) i hi
  obtain ⟨j, hj, ej⟩ := vp_in_of hk hlen
  refine lv_iload_n F.1 F.2.1 dJ1_charAt_3b067_0 rfl (lv_at hl 1 rfl) ?_
  refine lv_aload_n F.1 F.2.1 dJ1_charAt_3b067_1 rfl (lv_at hl 0 rfl) ?_
  refine va_tlen F.1 F.2.1 (hT.1 i hi).2.2.2 hS rfl dJ1_charAt_3b067_2 ?_
  refine va_callv (va_runS (As := [.int k, .int (Int32.ofNat (ks_len.getD i 0))]) (rest := []) F (hs_ck l (adK := adK) (adV := adV) (A := A) (fun h9 => hk (Or.inl h9)) (by rw [ej]; exact nI_lt hj hlen)) (va_cwS 2 F.2.2.2.2 (kt_S tw_297 tw_298 tw_290 tw_299) rfl rfl rfl (by decide +kernel) ⟨Nat.le_of_ble_eq_true rfl, Nat.le_of_ble_eq_true rfl⟩) ⟨ks_blind, fun U hU hW9 => ⟨rfl, ks_pre hT hS U hU hW9⟩⟩ rfl rfl hl.1 rfl (lv_room (by simp)) dJ1_charAt_3b067_3 ⟨Nat.zero_le _, Nat.zero_le _⟩) hS0 (fun _ _ h => h) (fun _ h => h) (fun u t H1 locs1 ht hvm hp _ hz hk1 hS1 => ?_)
  have hSA : va_S A s.heap H1 locs1 := ⟨hS1.1, fun q h1 h2 => hS1.2.1 q h1 (fun z => z), fun q h => (hS1.2.2 q h).elim⟩
  refine lv_aload_n F.1 F.2.1 dJ1_charAt_3b067_6 rfl (lv_at hl 0 rfl) ?_
  refine lv_iload_n F.1 F.2.1 dJ1_charAt_3b067_7 rfl (lv_at hl 1 rfl) ?_
  refine va_tb F.1 F.2.1 (hT.1 i hi).2.2.2 hSA hk rfl dJ1_charAt_3b067_8 ?_
  refine lv_sipush (v := 255) F.1 F.2.1 dJ1_charAt_3b067_9 (by decide) ?_
  refine lv_iand F.1 F.2.1 dJ1_charAt_3b067_12 ?_
  have hcl : k.toNatClampNeg = j := by rw [ej]; exact nI_clamp (by omega)
  obtain ⟨g1, g2⟩ := ks_chr i hi j hj
  rw [hcl]
  refine lv_i2c F.1 F.2.1 dJ1_charAt_3b067_13 g1 ?_
  exact W.zret (v := (ks_byt.getD i []).getD j 0) F.1 F.2.1 hr g2 (fun t9 ht9 _ => ⟨⟨_, (), rfl, rfl, trivial⟩, ks_F hS1 ht9⟩) hS1.2.2 dJ1_charAt_3b067_14 hlocks
theorem hs_char (l : Launch) {adK adV : Nat → Nat} {A : Nat → Prop} {i : Nat} (hi : i < 12) {k : Int32} (hk : vp_in k (ks_len.getD i 0)) : ks_M l yJ0_charAt_5068e cJ0_charAt_5068e 2 (some .char) 3 64 [.ref (adK i), .int k] adK adV A (ks_Qi ((ks_byt.getD i []).getD k.toNatClampNeg 0)) := by
  refine ks_enter (own := RJ0) (by decide) rfl (Nat.le_of_ble_eq_true rfl) ?_
  intro p e s m below meth c ls F hr hlocks hT hl
  have hl : lv_has ls 2 [(0, .ref (adK i)), (1, .int k)] := hl
  have hS : va_S A s.heap s.heap [] := va_S.rf
  have hS0 : va_S (fun _ => False) s.heap s.heap [] := va_S.rf
  have hlen : ks_len.getD i 0 < 2 ^ 31 := (by decide : ∀ i : Nat, i < 12 → ks_len.getD i 0 < 2 ^ 31) i hi
  obtain ⟨j, hj, ej⟩ := vp_in_of hk hlen
  have hcl : k.toNatClampNeg = j := by rw [ej]; exact nI_clamp (by omega)
  obtain ⟨-, g2⟩ := ks_chr i hi j hj
  refine lv_aload_n F.1 F.2.1 dJ0_charAt_5068e_0 rfl (lv_at hl 0 rfl) ?_
  refine va_calli (va_runV (As := []) (rest := []) F (hs_isLatin1 l (adV := adV) (A := A) hi) (cwV 0 F.2.2.2.2 (kt_V tw_300 tw_301 tw_302 tw_290 tw_303) rfl rfl rfl (by decide +kernel) ⟨Nat.le_of_ble_eq_true rfl, Nat.le_of_ble_eq_true rfl⟩) ⟨ks_blind, ks_recv hT hS hi, fun U hU hW9 => ⟨rfl, ks_pre hT hS U hU hW9⟩⟩ rfl rfl hl.1 rfl (lv_room (by simp)) dJ0_charAt_5068e_1 ⟨Nat.zero_le _, Nat.zero_le _⟩) hS0 (fun _ _ h => h) (fun _ h => h) (fun r u t H1 locs1 ht hvm hp _ hz hk1 hS1 => ?_)
  subst hp
  have hSA : va_S A s.heap H1 locs1 := ⟨hS1.1, fun q h1 h2 => hS1.2.1 q h1 (fun z => z), fun q h => (hS1.2.2 q h).elim⟩
  refine lv_if_eq (tgt := 16) F.1 F.2.1 dJ0_charAt_5068e_4 (by decide) (fun c9 => absurd c9 (by decide)) (fun _ => ?_)
  refine lv_aload_n F.1 F.2.1 dJ0_charAt_5068e_7 rfl (lv_at hl 0 rfl) ?_
  refine vk_getf F.1 F.2.1 (hT.1 i hi).2.2.1 hSA F.2.2.2.1 (F.2.2.2.2 _ tw_286) (fun _ h9 => h9) dJ0_charAt_5068e_8 ?_
  refine lv_iload_n F.1 F.2.1 dJ0_charAt_5068e_11 rfl (lv_at hl 1 rfl) ?_
  refine va_calli (va_runS (As := [.ref (adV i), .int k]) (rest := []) F (hs_char1 l (adK := adK) (adV := adV) (A := A) hi hk) (va_cwS 2 F.2.2.2.2 (kt_S tw_304 tw_305 tw_306 tw_307) rfl rfl rfl (by decide +kernel) ⟨Nat.le_of_ble_eq_true rfl, Nat.le_of_ble_eq_true rfl⟩) ⟨ks_blind, fun U hU hW9 => ⟨rfl, ks_pre hT hSA U hU hW9⟩⟩ rfl rfl hl.1 rfl (lv_room (by simp)) dJ0_charAt_5068e_12 ⟨Nat.zero_le _, Nat.zero_le _⟩) hS1 (fun _ _ h => h) (fun _ h => h) (fun r u t H2 locs2 ht hvm hp _ hz hk2 hS2 => ?_)
  rw [hcl] at hp
  subst hp
  rw [hcl]
  exact W.zret (v := (ks_byt.getD i []).getD j 0) F.1 F.2.1 hr g2 (fun t9 ht9 _ => ⟨⟨_, (), rfl, rfl, trivial⟩, ks_F hS2 ht9⟩) hS2.2.2 dJ0_charAt_5068e_15 hlocks


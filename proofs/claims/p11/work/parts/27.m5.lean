section
variable {p : Program} {l : Launch} {e : Env} {R : Room} {s : State} {m : MethodId} {args : Array Value} {below : List Frame} {meth : Method} {c : Code} {H : Heap} {locs : List Loc} {Q : State → Prop}
variable {cc : ByteArray} {pc nL : Nat} {ls : Array Slot} {rest : List Value} {G : km_G} {μ : km_S}
theorem kc_X12_readExpression_re (F : CallFix p m c cc nL s args kt_ RX12) (C : km_X G s H locs μ) {P : km_S → Prop} {fr lo : Nat} {l1 : Int32} (hM : km_M l G yX12_readExpression cX12_readExpression 4 none fr lo [.ref (G.1 0), .int l1] μ (km_Qv G P)) (h1 : fr + 1 ≤ R.frames) (h2 : 8 + (4 + 11) + lo ≤ R.locals) (hsz : ls.size = nL) (hW : (rest.map fun v => v.category).sum ≤ 8) (hdg : decode cc pc = .ok (.invokevirtual 259, 3)) (kk : ∀ (μ' : km_S) (H1 : Heap) (locs1 : List Loc), P μ' → km_X G s H1 locs1 μ' → W p l e R s m args below meth c H1 locs1 0 0 Q (F0 m (pc + 3) ls rest)) : W p l e R s m args below meth c H locs 0 0 Q (F0 m pc ls (.int l1 :: .ref (G.1 0) :: rest)) :=
  km_cVv (n := 1) (As := [.int l1]) F C hM (kt_V tw_276 tw_277 tw_278 tw_151 tw_279) (by decide +kernel) ⟨h1, h2⟩ rfl hsz hW hdg kk
end
theorem dX12_isWord_0 : decode cX12_isWord 0 = .ok (.aload_n 0, 1) := by decide +kernel
theorem dX12_isWord_1 : decode cX12_isWord 1 = .ok (.getfield 214, 3) := by decide +kernel
theorem dX12_isWord_4 : decode cX12_isWord 4 = .ok (.iconst 1, 1) := by decide +kernel
theorem dX12_isWord_5 : decode cX12_isWord 5 = .ok (.if_icmp .ne 23, 3) := by decide +kernel
theorem dX12_isWord_8 : decode cX12_isWord 8 = .ok (.aload_n 1, 1) := by decide +kernel
theorem dX12_isWord_9 : decode cX12_isWord 9 = .ok (.invokevirtual 226, 3) := by decide +kernel
theorem dX12_isWord_12 : decode cX12_isWord 12 = .ok (.aload_n 0, 1) := by decide +kernel
theorem dX12_isWord_13 : decode cX12_isWord 13 = .ok (.getfield 223, 3) := by decide +kernel
theorem dX12_isWord_16 : decode cX12_isWord 16 = .ok (.aload_n 0, 1) := by decide +kernel
theorem dX12_isWord_17 : decode cX12_isWord 17 = .ok (.getfield 208, 3) := by decide +kernel
theorem dX12_isWord_20 : decode cX12_isWord 20 = .ok (.isub, 1) := by decide +kernel
theorem dX12_isWord_21 : decode cX12_isWord 21 = .ok (.if_icmp .ne 7, 3) := by decide +kernel
theorem dX12_isWord_24 : decode cX12_isWord 24 = .ok (.iconst 1, 1) := by decide +kernel
theorem dX12_isWord_25 : decode cX12_isWord 25 = .ok (.goto 4, 3) := by decide +kernel
theorem dX12_isWord_28 : decode cX12_isWord 28 = .ok (.iconst 0, 1) := by decide +kernel
theorem dX12_isWord_29 : decode cX12_isWord 29 = .ok (.istore_n 2, 1) := by decide +kernel
theorem dX12_isWord_30 : decode cX12_isWord 30 = .ok (.iconst 0, 1) := by decide +kernel
theorem dX12_isWord_31 : decode cX12_isWord 31 = .ok (.istore_n 3, 1) := by decide +kernel
theorem dX12_isWord_32 : decode cX12_isWord 32 = .ok (.iload_n 2, 1) := by decide +kernel
theorem dX12_isWord_33 : decode cX12_isWord 33 = .ok (.ifCond .eq 42, 3) := by decide +kernel
theorem dX12_isWord_36 : decode cX12_isWord 36 = .ok (.iload_n 3, 1) := by decide +kernel
theorem dX12_isWord_37 : decode cX12_isWord 37 = .ok (.aload_n 1, 1) := by decide +kernel
theorem dX12_isWord_38 : decode cX12_isWord 38 = .ok (.invokevirtual 226, 3) := by decide +kernel
theorem dX12_isWord_41 : decode cX12_isWord 41 = .ok (.if_icmp .ge 34, 3) := by decide +kernel
theorem dX12_isWord_44 : decode cX12_isWord 44 = .ok (.aload_n 1, 1) := by decide +kernel
theorem dX12_isWord_45 : decode cX12_isWord 45 = .ok (.iload_n 3, 1) := by decide +kernel
theorem dX12_isWord_46 : decode cX12_isWord 46 = .ok (.invokevirtual 228, 3) := by decide +kernel
theorem dX12_isWord_49 : decode cX12_isWord 49 = .ok (.aload_n 0, 1) := by decide +kernel
theorem dX12_isWord_50 : decode cX12_isWord 50 = .ok (.getfield 149, 3) := by decide +kernel
theorem dX12_isWord_53 : decode cX12_isWord 53 = .ok (.aload_n 0, 1) := by decide +kernel
theorem dX12_isWord_54 : decode cX12_isWord 54 = .ok (.getfield 208, 3) := by decide +kernel
theorem dX12_isWord_57 : decode cX12_isWord 57 = .ok (.iload_n 3, 1) := by decide +kernel
theorem dX12_isWord_58 : decode cX12_isWord 58 = .ok (.iadd, 1) := by decide +kernel
theorem dX12_isWord_59 : decode cX12_isWord 59 = .ok (.iaload, 1) := by decide +kernel
theorem dX12_isWord_60 : decode cX12_isWord 60 = .ok (.if_icmp .ne 7, 3) := by decide +kernel
theorem dX12_isWord_63 : decode cX12_isWord 63 = .ok (.iconst 1, 1) := by decide +kernel
theorem dX12_isWord_64 : decode cX12_isWord 64 = .ok (.goto 4, 3) := by decide +kernel
theorem dX12_isWord_67 : decode cX12_isWord 67 = .ok (.iconst 0, 1) := by decide +kernel
theorem dX12_isWord_68 : decode cX12_isWord 68 = .ok (.istore_n 2, 1) := by decide +kernel
theorem dX12_isWord_69 : decode cX12_isWord 69 = .ok (.iinc 3 1, 3) := by decide +kernel
theorem dX12_isWord_72 : decode cX12_isWord 72 = .ok (.goto (-40), 3) := by decide +kernel
theorem dX12_isWord_75 : decode cX12_isWord 75 = .ok (.iload_n 2, 1) := by decide +kernel
theorem dX12_isWord_76 : decode cX12_isWord 76 = .ok (.ireturn, 1) := by decide +kernel
def wX12_isWord_28 (k29 : Nat → Int32 → km_S → Prop) (Q : Int32 → km_S → Prop) (l1 : Nat) (μ : km_S) : Prop := k29 l1 0 μ
def wX12_isWord_68 (k32 : Nat → Int32 → Int32 → km_S → Prop) (Q : Int32 → km_S → Prop) (l1 : Nat) (l3 : Int32) (s0 : Int32) (μ : km_S) : Prop := ∀ v1 : Int32, v1 = l3 + 1 → k32 l1 s0 v1 μ
def wX12_isWord_32 (Q : Int32 → km_S → Prop) : Nat → Nat → Int32 → Int32 → km_S → Prop
  | 0, _, _, _, _ => False
  | n + 1, l1, l2, l3, μ => ((l2 = 0 → narrow .boolean (.int l2) = .int l2 ∧ Q l2 μ) ∧
    (¬ (l2 = 0) → l1 < 12 ∧ (((nI (ks_len.getD l1 0)) ≤ l3 → narrow .boolean (.int l2) = .int l2 ∧ Q l2 μ) ∧
      (¬ ((nI (ks_len.getD l1 0)) ≤ l3) → l1 < 12 ∧ vp_in l3 (ks_len.getD l1 0) ∧ vp_in ((km_i μ 64) + l3) 500 ∧ ((¬ ((ks_byt.getD l1 []).getD l3.toNatClampNeg 0) = (km_a μ 52 ((km_i μ 64) + l3).toNatClampNeg) → wX12_isWord_68 (wX12_isWord_32 Q n) Q l1 l3 0 μ) ∧
        (((ks_byt.getD l1 []).getD l3.toNatClampNeg 0) = (km_a μ 52 ((km_i μ 64) + l3).toNatClampNeg) → wX12_isWord_68 (wX12_isWord_32 Q n) Q l1 l3 1 μ))))))
def wX12_isWord_29 (Q : Int32 → km_S → Prop) (l1 : Nat) (s0 : Int32) (μ : km_S) : Prop := ∃ j, wX12_isWord_32 Q j l1 s0 0 μ
def wX12_isWord (l1 : Nat) (μ : km_S) (Q : Int32 → km_S → Prop) : Prop := ((¬ (km_i μ 62) = 1 → wX12_isWord_28 (wX12_isWord_29 Q) Q l1 μ) ∧
  ((km_i μ 62) = 1 → l1 < 12 ∧ ((¬ (nI (ks_len.getD l1 0)) = ((km_i μ 65) - (km_i μ 64)) → wX12_isWord_28 (wX12_isWord_29 Q) Q l1 μ) ∧
    ((nI (ks_len.getD l1 0)) = ((km_i μ 65) - (km_i μ 64)) → wX12_isWord_29 Q l1 1 μ))))
set_option maxRecDepth 100000 in
set_option maxHeartbeats 4000000 in
theorem tX12_isWord_28 (l : Launch) (G : km_G) {p : Program} {e : Env} {s : State} {m : MethodId} {args : Array Value} {below : List Frame} {meth : Method} {c : Code} (F : CallFix p m c cX12_isWord 4 s args kt_ RX12) (hr : meth.sig.returnType = (some .boolean)) (hlocks : meth.locks = false) (Q : Int32 → km_S → Prop) (k29 : Nat → Int32 → km_S → Prop) (hk29 : ∀ (l1 : Nat) (s0 : Int32) (μ : km_S) (H : Heap) (locs : List Loc) (ls : Array Slot), k29 l1 s0 μ → km_X G s H locs μ → lv_has ls 4 [(0, .ref (G.1 0)), (1, .ref (G.2.2.2.1 l1))] → W p l e { frames := 4, cells := 0, slots := 0, locals := 85 } s m args below meth c H locs 0 0 (MQ below (km_Qi G Q) args s 0 0 (km_A G)) (F0 m 29 ls [.int s0])) : ∀ (l1 : Nat) (μ : km_S) (H : Heap) (locs : List Loc) (ls : Array Slot), wX12_isWord_28 k29 Q l1 μ → km_X G s H locs μ → lv_has ls 4 [(0, .ref (G.1 0)), (1, .ref (G.2.2.2.1 l1))] → W p l e { frames := 4, cells := 0, slots := 0, locals := 85 } s m args below meth c H locs 0 0 (MQ below (km_Qi G Q) args s 0 0 (km_A G)) (F0 m 28 ls []) := by
  intro l1 μ H locs ls h C hl
  refine lv_iconst (v := 0) F.1 F.2.1 dX12_isWord_28 (by decide) ?_
  exact hk29 l1 0 μ H locs ls h C (lv_sub hl [0, 1] rfl)
set_option maxRecDepth 100000 in
set_option maxHeartbeats 4000000 in
theorem tX12_isWord_68 (l : Launch) (G : km_G) {p : Program} {e : Env} {s : State} {m : MethodId} {args : Array Value} {below : List Frame} {meth : Method} {c : Code} (F : CallFix p m c cX12_isWord 4 s args kt_ RX12) (hr : meth.sig.returnType = (some .boolean)) (hlocks : meth.locks = false) (Q : Int32 → km_S → Prop) (k32 : Nat → Int32 → Int32 → km_S → Prop) (hk32 : ∀ (l1 : Nat) (l2 : Int32) (l3 : Int32) (μ : km_S) (H : Heap) (locs : List Loc) (ls : Array Slot), k32 l1 l2 l3 μ → km_X G s H locs μ → lv_has ls 4 [(0, .ref (G.1 0)), (1, .ref (G.2.2.2.1 l1)), (2, .int l2), (3, .int l3)] → W p l e { frames := 4, cells := 0, slots := 0, locals := 85 } s m args below meth c H locs 0 0 (MQ below (km_Qi G Q) args s 0 0 (km_A G)) (F0 m 32 ls [])) : ∀ (l1 : Nat) (l3 : Int32) (s0 : Int32) (μ : km_S) (H : Heap) (locs : List Loc) (ls : Array Slot), wX12_isWord_68 k32 Q l1 l3 s0 μ → km_X G s H locs μ → lv_has ls 4 [(0, .ref (G.1 0)), (1, .ref (G.2.2.2.1 l1)), (3, .int l3)] → W p l e { frames := 4, cells := 0, slots := 0, locals := 85 } s m args below meth c H locs 0 0 (MQ below (km_Qi G Q) args s 0 0 (km_A G)) (F0 m 68 ls [.int s0]) := by
  intro l1 l3 s0 μ H locs ls h C hl
  refine lv_istore_n (lv' := [(2, .int s0), (0, .ref (G.1 0)), (1, .ref (G.2.2.2.1 l1)), (3, .int l3)]) F.1 F.2.1 dX12_isWord_68 rfl hl (by decide) rfl (fun ls hl => ?_)
  obtain ⟨v1, ev1⟩ : ∃ z9 : Int32, z9 = l3 + 1 := ⟨_, rfl⟩
  have h := h v1 ev1
  refine lv_iinc (v := v1) (lv' := [(3, .int v1), (2, .int s0), (0, .ref (G.1 0)), (1, .ref (G.2.2.2.1 l1))]) F.1 F.2.1 dX12_isWord_69 hl (k := 3) rfl (by rw [ev1]; rfl) (by decide) rfl (fun ls hl => ?_)
  refine lv_goto (tgt := 32) F.1 F.2.1 dX12_isWord_72 (by decide) ?_
  exact hk32 l1 s0 v1 μ H locs ls h C (lv_sub hl [2, 3, 1, 0] rfl)
set_option maxRecDepth 100000 in
set_option maxHeartbeats 4000000 in
theorem tX12_isWord_32 (l : Launch) (G : km_G) {p : Program} {e : Env} {s : State} {m : MethodId} {args : Array Value} {below : List Frame} {meth : Method} {c : Code} (F : CallFix p m c cX12_isWord 4 s args kt_ RX12) (hr : meth.sig.returnType = (some .boolean)) (hlocks : meth.locks = false) (Q : Int32 → km_S → Prop) : ∀ (n : Nat) (l1 : Nat) (l2 : Int32) (l3 : Int32) (μ : km_S) (H : Heap) (locs : List Loc) (ls : Array Slot), wX12_isWord_32 Q n l1 l2 l3 μ → km_X G s H locs μ → lv_has ls 4 [(0, .ref (G.1 0)), (1, .ref (G.2.2.2.1 l1)), (2, .int l2), (3, .int l3)] → W p l e { frames := 4, cells := 0, slots := 0, locals := 85 } s m args below meth c H locs 0 0 (MQ below (km_Qi G Q) args s 0 0 (km_A G)) (F0 m 32 ls []) := by
  intro n
  induction n with
  | zero => intro l1 l2 l3 μ H locs ls h; exact h.elim
  | succ n ih =>
    intro l1 l2 l3 μ H locs ls h C hl
    refine lv_iload_n F.1 F.2.1 dX12_isWord_32 rfl (lv_at hl 2 rfl) ?_
    refine lv_if_eq (tgt := 75) F.1 F.2.1 dX12_isWord_33 (by decide) (fun c2 => ?_) (fun c2 => ?_)
    · have h := h.1 c2
      refine lv_iload_n F.1 F.2.1 dX12_isWord_75 rfl (lv_at hl 2 rfl) ?_
      exact km_zret F C hr hlocks h.1 h.2 dX12_isWord_76
    · have h := h.2 c2
      refine lv_iload_n F.1 F.2.1 dX12_isWord_36 rfl (lv_at hl 3 rfl) ?_
      refine lv_aload_n F.1 F.2.1 dX12_isWord_37 rfl (lv_at hl 1 rfl) ?_
      obtain ⟨hn3, h⟩ := h
      refine km_slen F C hn3 (Nat.le_of_ble_eq_true rfl) (Nat.le_of_ble_eq_true rfl) hl.1 (by simp [Value.category]) dX12_isWord_38 (fun H locs C => ?_)
      refine lv_icmp_ge (tgt := 75) F.1 F.2.1 dX12_isWord_41 (by decide) (fun c4 => ?_) (fun c4 => ?_)
      · have h := h.1 c4
        refine lv_iload_n F.1 F.2.1 dX12_isWord_75 rfl (lv_at hl 2 rfl) ?_
        exact km_zret F C hr hlocks h.1 h.2 dX12_isWord_76
      · have h := h.2 c4
        refine lv_aload_n F.1 F.2.1 dX12_isWord_44 rfl (lv_at hl 1 rfl) ?_
        refine lv_iload_n F.1 F.2.1 dX12_isWord_45 rfl (lv_at hl 3 rfl) ?_
        obtain ⟨hn5, hn6, h⟩ := h
        refine km_schar F C hn5 hn6 (Nat.le_of_ble_eq_true rfl) (Nat.le_of_ble_eq_true rfl) hl.1 (by simp [Value.category]) dX12_isWord_46 (fun H locs C => ?_)
        refine lv_aload_n F.1 F.2.1 dX12_isWord_49 rfl (lv_at hl 0 rfl) ?_
        refine kg_tape F C dX12_isWord_50 ?_
        refine lv_aload_n F.1 F.2.1 dX12_isWord_53 rfl (lv_at hl 0 rfl) ?_
        refine kg_begins F C dX12_isWord_54 ?_
        refine lv_iload_n F.1 F.2.1 dX12_isWord_57 rfl (lv_at hl 3 rfl) ?_
        refine lv_iadd (x := km_i μ 64) (y := l3) F.1 F.2.1 dX12_isWord_58 ?_
        obtain ⟨hn7, h⟩ := h
        refine kl_tape F C hn7 dX12_isWord_59 ?_
        refine lv_icmp_ne (tgt := 67) F.1 F.2.1 dX12_isWord_60 (by decide) (fun c8 => ?_) (fun c8 => ?_)
        · have h := h.1 c8
          refine lv_iconst (v := 0) F.1 F.2.1 dX12_isWord_67 (by decide) ?_
          exact tX12_isWord_68 l G F hr hlocks Q (wX12_isWord_32 Q n) (fun l1 l2 l3 μ9 H locs ls h C hl => ih l1 l2 l3 μ9 H locs ls h C hl) l1 l3 0 μ H locs ls h C (lv_sub hl [0, 1, 3] rfl)
        · have h := h.2 c8
          refine lv_iconst (v := 1) F.1 F.2.1 dX12_isWord_63 (by decide) ?_
          refine lv_goto (tgt := 68) F.1 F.2.1 dX12_isWord_64 (by decide) ?_
          exact tX12_isWord_68 l G F hr hlocks Q (wX12_isWord_32 Q n) (fun l1 l2 l3 μ9 H locs ls h C hl => ih l1 l2 l3 μ9 H locs ls h C hl) l1 l3 1 μ H locs ls h C (lv_sub hl [0, 1, 3] rfl)
set_option maxRecDepth 100000 in
set_option maxHeartbeats 4000000 in
theorem tX12_isWord_29 (l : Launch) (G : km_G) {p : Program} {e : Env} {s : State} {m : MethodId} {args : Array Value} {below : List Frame} {meth : Method} {c : Code} (F : CallFix p m c cX12_isWord 4 s args kt_ RX12) (hr : meth.sig.returnType = (some .boolean)) (hlocks : meth.locks = false) (Q : Int32 → km_S → Prop) : ∀ (l1 : Nat) (s0 : Int32) (μ : km_S) (H : Heap) (locs : List Loc) (ls : Array Slot), wX12_isWord_29 Q l1 s0 μ → km_X G s H locs μ → lv_has ls 4 [(0, .ref (G.1 0)), (1, .ref (G.2.2.2.1 l1))] → W p l e { frames := 4, cells := 0, slots := 0, locals := 85 } s m args below meth c H locs 0 0 (MQ below (km_Qi G Q) args s 0 0 (km_A G)) (F0 m 29 ls [.int s0]) := by
  intro l1 s0 μ H locs ls h C hl
  refine lv_istore_n (lv' := [(2, .int s0), (0, .ref (G.1 0)), (1, .ref (G.2.2.2.1 l1))]) F.1 F.2.1 dX12_isWord_29 rfl hl (by decide) rfl (fun ls hl => ?_)
  refine lv_iconst (v := 0) F.1 F.2.1 dX12_isWord_30 (by decide) ?_
  refine lv_istore_n (lv' := [(3, .int 0), (2, .int s0), (0, .ref (G.1 0)), (1, .ref (G.2.2.2.1 l1))]) F.1 F.2.1 dX12_isWord_31 rfl hl (by decide) rfl (fun ls hl => ?_)
  obtain ⟨n9, h⟩ := h
  exact tX12_isWord_32 l G F hr hlocks Q n9 l1 s0 0 μ H locs ls h C (lv_sub hl [2, 3, 1, 0] rfl)
set_option maxRecDepth 100000 in
set_option maxHeartbeats 4000000 in
theorem hc_X12_isWord (l : Launch) (G : km_G) (l1 : Nat) (μ : km_S) (Q : Int32 → km_S → Prop) (h : wX12_isWord l1 μ Q) : km_M l G yX12_isWord cX12_isWord 4 (some .boolean) (4) (85) [.ref (G.1 0), .ref (G.2.2.2.1 l1)] μ (km_Qi G Q) := by
  refine km_enter (by decide) rfl (Nat.le_of_ble_eq_true rfl) ?_
  intro p e s m below meth c ls F hr hlocks C hl
  have hl : lv_has ls 4 [(0, .ref (G.1 0)), (1, .ref (G.2.2.2.1 l1))] := hl
  obtain ⟨H, eH⟩ : ∃ z9, z9 = s.heap := ⟨_, rfl⟩
  obtain ⟨locs, eL⟩ : ∃ z9 : List Loc, z9 = [] := ⟨_, rfl⟩
  rw [← eH, ← eL] at C
  rw [← eH, ← eL]
  refine lv_aload_n F.1 F.2.1 dX12_isWord_0 rfl (lv_at hl 0 rfl) ?_
  refine kg_token F C dX12_isWord_1 ?_
  refine lv_iconst (v := 1) F.1 F.2.1 dX12_isWord_4 (by decide) ?_
  refine lv_icmp_ne (tgt := 28) F.1 F.2.1 dX12_isWord_5 (by decide) (fun c10 => ?_) (fun c10 => ?_)
  · have h := h.1 c10
    exact tX12_isWord_28 l G F hr hlocks Q (wX12_isWord_29 Q) (tX12_isWord_29 l G F hr hlocks Q) l1 μ H locs ls h C (lv_sub hl [0, 1] rfl)
  · have h := h.2 c10
    refine lv_aload_n F.1 F.2.1 dX12_isWord_8 rfl (lv_at hl 1 rfl) ?_
    obtain ⟨hn11, h⟩ := h
    refine km_slen F C hn11 (Nat.le_of_ble_eq_true rfl) (Nat.le_of_ble_eq_true rfl) hl.1 (by simp [Value.category]) dX12_isWord_9 (fun H locs C => ?_)
    refine lv_aload_n F.1 F.2.1 dX12_isWord_12 rfl (lv_at hl 0 rfl) ?_
    refine kg_ends F C dX12_isWord_13 ?_
    refine lv_aload_n F.1 F.2.1 dX12_isWord_16 rfl (lv_at hl 0 rfl) ?_
    refine kg_begins F C dX12_isWord_17 ?_
    refine lv_isub (x := km_i μ 65) (y := km_i μ 64) F.1 F.2.1 dX12_isWord_20 ?_
    refine lv_icmp_ne (tgt := 28) F.1 F.2.1 dX12_isWord_21 (by decide) (fun c12 => ?_) (fun c12 => ?_)
    · have h := h.1 c12
      exact tX12_isWord_28 l G F hr hlocks Q (wX12_isWord_29 Q) (tX12_isWord_29 l G F hr hlocks Q) l1 μ H locs ls h C (lv_sub hl [0, 1] rfl)
    · have h := h.2 c12
      refine lv_iconst (v := 1) F.1 F.2.1 dX12_isWord_24 (by decide) ?_
      refine lv_goto (tgt := 29) F.1 F.2.1 dX12_isWord_25 (by decide) ?_
      exact tX12_isWord_29 l G F hr hlocks Q l1 1 μ H locs ls h C (lv_sub hl [0, 1] rfl)
section
variable {p : Program} {l : Launch} {e : Env} {R : Room} {s : State} {m : MethodId} {args : Array Value} {below : List Frame} {meth : Method} {c : Code} {H : Heap} {locs : List Loc} {Q : State → Prop}
variable {cc : ByteArray} {pc nL : Nat} {ls : Array Slot} {rest : List Value} {G : km_G} {μ : km_S}
theorem kc_X12_isWord (F : CallFix p m c cc nL s args kt_ RX12) (C : km_X G s H locs μ) {P : Int32 → km_S → Prop} {l1 : Nat} (h : wX12_isWord l1 μ P) (h1 : (4) + 1 ≤ R.frames) (h2 : 8 + (4 + 11) + (85) ≤ R.locals) (hsz : ls.size = nL) (hW : (rest.map fun v => v.category).sum ≤ 8) (hdg : decode cc pc = .ok (.invokevirtual 249, 3)) (kk : ∀ (r : Int32) (μ' : km_S) (H1 : Heap) (locs1 : List Loc), P r μ' → km_X G s H1 locs1 μ' → W p l e R s m args below meth c H1 locs1 0 0 Q (F0 m (pc + 3) ls (.int r :: rest))) : W p l e R s m args below meth c H locs 0 0 Q (F0 m pc ls (.ref (G.2.2.2.1 l1) :: .ref (G.1 0) :: rest)) :=
  km_cVi (n := 1) (As := [.ref (G.2.2.2.1 l1)]) F C (hc_X12_isWord l G l1 μ P h) (kt_V tw_256 tw_257 tw_258 tw_151 tw_259) (by decide +kernel) ⟨h1, h2⟩ rfl hsz hW hdg kk
end
theorem dX12_readPart_0 : decode cX12_readPart 0 = .ok (.aload_n 0, 1) := by decide +kernel
theorem dX12_readPart_1 : decode cX12_readPart 1 = .ok (.getfield 232, 3) := by decide +kernel
theorem dX12_readPart_4 : decode cX12_readPart 4 = .ok (.ifCond .eq 4, 3) := by decide +kernel
theorem dX12_readPart_7 : decode cX12_readPart 7 = .ok (.return_, 1) := by decide +kernel
theorem dX12_readPart_8 : decode cX12_readPart 8 = .ok (.aload_n 0, 1) := by decide +kernel
theorem dX12_readPart_9 : decode cX12_readPart 9 = .ok (.getfield 214, 3) := by decide +kernel
theorem dX12_readPart_12 : decode cX12_readPart 12 = .ok (.iconst 2, 1) := by decide +kernel
theorem dX12_readPart_13 : decode cX12_readPart 13 = .ok (.if_icmp .ne 78, 3) := by decide +kernel
theorem dX12_readPart_16 : decode cX12_readPart 16 = .ok (.aload_n 0, 1) := by decide +kernel
theorem dX12_readPart_17 : decode cX12_readPart 17 = .ok (.getfield 223, 3) := by decide +kernel
theorem dX12_readPart_20 : decode cX12_readPart 20 = .ok (.aload_n 0, 1) := by decide +kernel
theorem dX12_readPart_21 : decode cX12_readPart 21 = .ok (.getfield 208, 3) := by decide +kernel
theorem dX12_readPart_24 : decode cX12_readPart 24 = .ok (.isub, 1) := by decide +kernel
theorem dX12_readPart_25 : decode cX12_readPart 25 = .ok (.bipush 6, 2) := by decide +kernel
theorem dX12_readPart_27 : decode cX12_readPart 27 = .ok (.if_icmp .le 8, 3) := by decide +kernel
theorem dX12_readPart_30 : decode cX12_readPart 30 = .ok (.aload_n 0, 1) := by decide +kernel
theorem dX12_readPart_31 : decode cX12_readPart 31 = .ok (.iconst 2, 1) := by decide +kernel
theorem dX12_readPart_32 : decode cX12_readPart 32 = .ok (.invokevirtual 255, 3) := by decide +kernel
theorem dX12_readPart_35 : decode cX12_readPart 35 = .ok (.iconst 0, 1) := by decide +kernel
theorem dX12_readPart_36 : decode cX12_readPart 36 = .ok (.istore_n 2, 1) := by decide +kernel
theorem dX12_readPart_37 : decode cX12_readPart 37 = .ok (.aload_n 0, 1) := by decide +kernel
theorem dX12_readPart_38 : decode cX12_readPart 38 = .ok (.getfield 208, 3) := by decide +kernel
theorem dX12_readPart_41 : decode cX12_readPart 41 = .ok (.istore_n 3, 1) := by decide +kernel
theorem dX12_readPart_42 : decode cX12_readPart 42 = .ok (.iload_n 3, 1) := by decide +kernel
theorem dX12_readPart_43 : decode cX12_readPart 43 = .ok (.aload_n 0, 1) := by decide +kernel
theorem dX12_readPart_44 : decode cX12_readPart 44 = .ok (.getfield 223, 3) := by decide +kernel
theorem dX12_readPart_47 : decode cX12_readPart 47 = .ok (.if_icmp .ge 31, 3) := by decide +kernel
theorem dX12_readPart_50 : decode cX12_readPart 50 = .ok (.aload_n 0, 1) := by decide +kernel
theorem dX12_readPart_51 : decode cX12_readPart 51 = .ok (.getfield 232, 3) := by decide +kernel
theorem dX12_readPart_54 : decode cX12_readPart 54 = .ok (.ifCond .ne 24, 3) := by decide +kernel
theorem dX12_readPart_57 : decode cX12_readPart 57 = .ok (.bipush 10, 2) := by decide +kernel
theorem dX12_readPart_59 : decode cX12_readPart 59 = .ok (.iload_n 2, 1) := by decide +kernel
theorem dX12_readPart_60 : decode cX12_readPart 60 = .ok (.imul, 1) := by decide +kernel
theorem dX12_readPart_61 : decode cX12_readPart 61 = .ok (.aload_n 0, 1) := by decide +kernel
theorem dX12_readPart_62 : decode cX12_readPart 62 = .ok (.getfield 149, 3) := by decide +kernel
theorem dX12_readPart_65 : decode cX12_readPart 65 = .ok (.iload_n 3, 1) := by decide +kernel
theorem dX12_readPart_66 : decode cX12_readPart 66 = .ok (.iaload, 1) := by decide +kernel
theorem dX12_readPart_67 : decode cX12_readPart 67 = .ok (.iadd, 1) := by decide +kernel
theorem dX12_readPart_68 : decode cX12_readPart 68 = .ok (.bipush 48, 2) := by decide +kernel
theorem dX12_readPart_70 : decode cX12_readPart 70 = .ok (.isub, 1) := by decide +kernel
theorem dX12_readPart_71 : decode cX12_readPart 71 = .ok (.istore_n 2, 1) := by decide +kernel
theorem dX12_readPart_72 : decode cX12_readPart 72 = .ok (.iinc 3 1, 3) := by decide +kernel
theorem dX12_readPart_75 : decode cX12_readPart 75 = .ok (.goto (-33), 3) := by decide +kernel
theorem dX12_readPart_78 : decode cX12_readPart 78 = .ok (.aload_n 0, 1) := by decide +kernel
theorem dX12_readPart_79 : decode cX12_readPart 79 = .ok (.iconst 0, 1) := by decide +kernel
theorem dX12_readPart_80 : decode cX12_readPart 80 = .ok (.invokevirtual 272, 3) := by decide +kernel
theorem dX12_readPart_83 : decode cX12_readPart 83 = .ok (.aload_n 0, 1) := by decide +kernel
theorem dX12_readPart_84 : decode cX12_readPart 84 = .ok (.iload_n 2, 1) := by decide +kernel
theorem dX12_readPart_85 : decode cX12_readPart 85 = .ok (.invokevirtual 272, 3) := by decide +kernel
theorem dX12_readPart_88 : decode cX12_readPart 88 = .ok (.goto 112, 3) := by decide +kernel
theorem dX12_readPart_91 : decode cX12_readPart 91 = .ok (.aload_n 0, 1) := by decide +kernel
theorem dX12_readPart_92 : decode cX12_readPart 92 = .ok (.getfield 214, 3) := by decide +kernel
theorem dX12_readPart_95 : decode cX12_readPart 95 = .ok (.iconst 1, 1) := by decide +kernel
theorem dX12_readPart_96 : decode cX12_readPart 96 = .ok (.if_icmp .ne 55, 3) := by decide +kernel
theorem dX12_readPart_99 : decode cX12_readPart 99 = .ok (.iconst (-1), 1) := by decide +kernel
theorem dX12_readPart_100 : decode cX12_readPart 100 = .ok (.istore_n 2, 1) := by decide +kernel
theorem dX12_readPart_101 : decode cX12_readPart 101 = .ok (.iconst 0, 1) := by decide +kernel
theorem dX12_readPart_102 : decode cX12_readPart 102 = .ok (.istore_n 3, 1) := by decide +kernel
theorem dX12_readPart_103 : decode cX12_readPart 103 = .ok (.iload_n 3, 1) := by decide +kernel
theorem dX12_readPart_104 : decode cX12_readPart 104 = .ok (.bipush 7, 2) := by decide +kernel
theorem dX12_readPart_106 : decode cX12_readPart 106 = .ok (.if_icmp .ge 24, 3) := by decide +kernel
theorem dX12_readPart_109 : decode cX12_readPart 109 = .ok (.aload_n 0, 1) := by decide +kernel
theorem dX12_readPart_110 : decode cX12_readPart 110 = .ok (.aload_n 0, 1) := by decide +kernel
theorem dX12_readPart_111 : decode cX12_readPart 111 = .ok (.getfield 23, 3) := by decide +kernel
theorem dX12_readPart_114 : decode cX12_readPart 114 = .ok (.iload_n 3, 1) := by decide +kernel
theorem dX12_readPart_115 : decode cX12_readPart 115 = .ok (.aaload, 1) := by decide +kernel
theorem dX12_readPart_116 : decode cX12_readPart 116 = .ok (.invokevirtual 249, 3) := by decide +kernel
theorem dX12_readPart_119 : decode cX12_readPart 119 = .ok (.ifCond .eq 5, 3) := by decide +kernel
theorem dX12_readPart_122 : decode cX12_readPart 122 = .ok (.iload_n 3, 1) := by decide +kernel
theorem dX12_readPart_123 : decode cX12_readPart 123 = .ok (.istore_n 2, 1) := by decide +kernel
theorem dX12_readPart_124 : decode cX12_readPart 124 = .ok (.iinc 3 1, 3) := by decide +kernel
theorem dX12_readPart_127 : decode cX12_readPart 127 = .ok (.goto (-24), 3) := by decide +kernel
theorem dX12_readPart_130 : decode cX12_readPart 130 = .ok (.iload_n 2, 1) := by decide +kernel
theorem dX12_readPart_131 : decode cX12_readPart 131 = .ok (.iconst (-1), 1) := by decide +kernel
theorem dX12_readPart_132 : decode cX12_readPart 132 = .ok (.if_icmp .ne 8, 3) := by decide +kernel
theorem dX12_readPart_135 : decode cX12_readPart 135 = .ok (.aload_n 0, 1) := by decide +kernel
theorem dX12_readPart_136 : decode cX12_readPart 136 = .ok (.iconst 3, 1) := by decide +kernel
theorem dX12_readPart_137 : decode cX12_readPart 137 = .ok (.invokevirtual 255, 3) := by decide +kernel
theorem dX12_readPart_140 : decode cX12_readPart 140 = .ok (.aload_n 0, 1) := by decide +kernel
theorem dX12_readPart_141 : decode cX12_readPart 141 = .ok (.bipush 20, 2) := by decide +kernel
theorem dX12_readPart_143 : decode cX12_readPart 143 = .ok (.iload_n 2, 1) := by decide +kernel
theorem dX12_readPart_144 : decode cX12_readPart 144 = .ok (.iadd, 1) := by decide +kernel
theorem dX12_readPart_145 : decode cX12_readPart 145 = .ok (.invokevirtual 272, 3) := by decide +kernel
theorem dX12_readPart_148 : decode cX12_readPart 148 = .ok (.goto 52, 3) := by decide +kernel
theorem dX12_readPart_151 : decode cX12_readPart 151 = .ok (.aload_n 0, 1) := by decide +kernel
theorem dX12_readPart_152 : decode cX12_readPart 152 = .ok (.bipush 40, 2) := by decide +kernel
theorem dX12_readPart_154 : decode cX12_readPart 154 = .ok (.invokevirtual 262, 3) := by decide +kernel
theorem dX12_readPart_157 : decode cX12_readPart 157 = .ok (.ifCond .eq 38, 3) := by decide +kernel
theorem dX12_readPart_160 : decode cX12_readPart 160 = .ok (.aload_n 0, 1) := by decide +kernel
theorem dX12_readPart_161 : decode cX12_readPart 161 = .ok (.invokevirtual 244, 3) := by decide +kernel
theorem dX12_readPart_164 : decode cX12_readPart 164 = .ok (.aload_n 0, 1) := by decide +kernel
theorem dX12_readPart_165 : decode cX12_readPart 165 = .ok (.iload_n 1, 1) := by decide +kernel
theorem dX12_readPart_166 : decode cX12_readPart 166 = .ok (.iconst 1, 1) := by decide +kernel
theorem dX12_readPart_167 : decode cX12_readPart 167 = .ok (.iadd, 1) := by decide +kernel
theorem dX12_readPart_168 : decode cX12_readPart 168 = .ok (.invokevirtual 259, 3) := by decide +kernel
theorem dX12_readPart_171 : decode cX12_readPart 171 = .ok (.aload_n 0, 1) := by decide +kernel
theorem dX12_readPart_172 : decode cX12_readPart 172 = .ok (.getfield 232, 3) := by decide +kernel
theorem dX12_readPart_175 : decode cX12_readPart 175 = .ok (.ifCond .ne 25, 3) := by decide +kernel
theorem dX12_readPart_178 : decode cX12_readPart 178 = .ok (.aload_n 0, 1) := by decide +kernel
theorem dX12_readPart_179 : decode cX12_readPart 179 = .ok (.bipush 41, 2) := by decide +kernel
theorem dX12_readPart_181 : decode cX12_readPart 181 = .ok (.invokevirtual 262, 3) := by decide +kernel
theorem dX12_readPart_184 : decode cX12_readPart 184 = .ok (.ifCond .ne 16, 3) := by decide +kernel
theorem dX12_readPart_187 : decode cX12_readPart 187 = .ok (.aload_n 0, 1) := by decide +kernel
theorem dX12_readPart_188 : decode cX12_readPart 188 = .ok (.iconst 1, 1) := by decide +kernel
theorem dX12_readPart_189 : decode cX12_readPart 189 = .ok (.invokevirtual 255, 3) := by decide +kernel
theorem dX12_readPart_192 : decode cX12_readPart 192 = .ok (.goto 8, 3) := by decide +kernel
theorem dX12_readPart_195 : decode cX12_readPart 195 = .ok (.aload_n 0, 1) := by decide +kernel
theorem dX12_readPart_196 : decode cX12_readPart 196 = .ok (.iconst 1, 1) := by decide +kernel
theorem dX12_readPart_197 : decode cX12_readPart 197 = .ok (.invokevirtual 255, 3) := by decide +kernel
theorem dX12_readPart_200 : decode cX12_readPart 200 = .ok (.aload_n 0, 1) := by decide +kernel
theorem dX12_readPart_201 : decode cX12_readPart 201 = .ok (.getfield 232, 3) := by decide +kernel
theorem dX12_readPart_204 : decode cX12_readPart 204 = .ok (.ifCond .ne 7, 3) := by decide +kernel
theorem dX12_readPart_207 : decode cX12_readPart 207 = .ok (.aload_n 0, 1) := by decide +kernel
theorem dX12_readPart_208 : decode cX12_readPart 208 = .ok (.invokevirtual 244, 3) := by decide +kernel
theorem dX12_readPart_211 : decode cX12_readPart 211 = .ok (.return_, 1) := by decide +kernel
def wX12_readPart_124 (re : Int32 → km_S → (km_S → Prop) → Prop) (k103 : Int32 → Int32 → km_S → Prop) (Q : km_S → Prop) (l2 : Int32) (l3 : Int32) (μ : km_S) : Prop := ∀ v1 : Int32, v1 = l3 + 1 → k103 l2 v1 μ
def wX12_readPart_200 (re : Int32 → km_S → (km_S → Prop) → Prop) (Q : km_S → Prop) (μ : km_S) : Prop := ((¬ (km_i μ 66) = 0 → Q μ) ∧
  ((km_i μ 66) = 0 → wX12_step μ fun μ3 => Q μ3))
def wX12_readPart_140 (re : Int32 → km_S → (km_S → Prop) → Prop) (k200 : km_S → Prop) (Q : km_S → Prop) (l2 : Int32) (μ : km_S) : Prop := wX12_emit (20 + l2) μ fun μ4 => k200 μ4
def wX12_readPart_78 (re : Int32 → km_S → (km_S → Prop) → Prop) (k200 : km_S → Prop) (Q : km_S → Prop) (l2 : Int32) (μ : km_S) : Prop := wX12_emit 0 μ fun μ5 => wX12_emit l2 μ5 fun μ6 => k200 μ6
def wX12_readPart_130 (re : Int32 → km_S → (km_S → Prop) → Prop) (k200 : km_S → Prop) (Q : km_S → Prop) (l2 : Int32) (μ : km_S) : Prop := ((¬ l2 = (-1) → wX12_readPart_140 re k200 Q l2 μ) ∧
  (l2 = (-1) → wX12_wrong 3 μ fun μ8 => wX12_readPart_140 re k200 Q l2 μ8))
def wX12_readPart_103 (re : Int32 → km_S → (km_S → Prop) → Prop) (k130 : Int32 → km_S → Prop) (Q : km_S → Prop) : Nat → Int32 → Int32 → km_S → Prop
  | 0, _, _, _ => False
  | n + 1, l2, l3, μ => ((7 ≤ l3 → k130 l2 μ) ∧
    (¬ (7 ≤ l3) → vp_in l3 7 ∧ wX12_isWord l3.toNatClampNeg μ fun r12 μ11 => ((r12 = 0 → wX12_readPart_124 re (wX12_readPart_103 re k130 Q n) Q l2 l3 μ11) ∧
      (¬ (r12 = 0) → wX12_readPart_124 re (wX12_readPart_103 re k130 Q n) Q l3 l3 μ11))))
def wX12_readPart_42 (re : Int32 → km_S → (km_S → Prop) → Prop) (k78 : Int32 → km_S → Prop) (Q : km_S → Prop) : Nat → Int32 → Int32 → km_S → Prop
  | 0, _, _, _ => False
  | n + 1, l2, l3, μ => (((km_i μ 65) ≤ l3 → k78 l2 μ) ∧
    (¬ ((km_i μ 65) ≤ l3) → ((¬ (km_i μ 66) = 0 → k78 l2 μ) ∧
      ((km_i μ 66) = 0 → vp_in l3 500 ∧ ∀ v17, v17 = ((10 * l2) + (km_a μ 52 l3.toNatClampNeg)) - 48 → ∀ v18 : Int32, v18 = l3 + 1 → wX12_readPart_42 re k78 Q n v17 v18 μ))))
def wX12_readPart_35 (re : Int32 → km_S → (km_S → Prop) → Prop) (k200 : km_S → Prop) (Q : km_S → Prop) (μ : km_S) : Prop := ∀ v19, v19 = km_i μ 64 → ∃ j, wX12_readPart_42 re (wX12_readPart_78 re k200 Q) Q j 0 v19 μ
def wX12_readPart (re : Int32 → km_S → (km_S → Prop) → Prop) (l1 : Int32) (μ : km_S) (Q : km_S → Prop) : Prop := (((km_i μ 66) = 0 → ((¬ (km_i μ 62) = 2 → ((¬ (km_i μ 62) = 1 → wX12_isSign 40 μ fun r25 μ24 => ((r25 = 0 → wX12_wrong 1 μ24 fun μ27 => wX12_readPart_200 re Q μ27) ∧
        (¬ (r25 = 0) → wX12_step μ24 fun μ28 => re (l1 + 1) μ28 fun μ29 => ((¬ (km_i μ29 66) = 0 → wX12_readPart_200 re Q μ29) ∧
          ((km_i μ29 66) = 0 → wX12_isSign 41 μ29 fun r32 μ31 => ((¬ r32 = 0 → wX12_readPart_200 re Q μ31) ∧
            (r32 = 0 → wX12_wrong 1 μ31 fun μ34 => wX12_readPart_200 re Q μ34))))))) ∧
      ((km_i μ 62) = 1 → ∃ j, wX12_readPart_103 re (wX12_readPart_130 re (wX12_readPart_200 re Q) Q) Q j (-1) 0 μ))) ∧
    ((km_i μ 62) = 2 → ((((km_i μ 65) - (km_i μ 64)) ≤ 6 → wX12_readPart_35 re (wX12_readPart_200 re Q) Q μ) ∧
      (¬ (((km_i μ 65) - (km_i μ 64)) ≤ 6) → wX12_wrong 2 μ fun μ37 => wX12_readPart_35 re (wX12_readPart_200 re Q) Q μ37))))) ∧
  (¬ ((km_i μ 66) = 0) → Q μ))
set_option maxRecDepth 100000 in
set_option maxHeartbeats 4000000 in
theorem tX12_readPart_124 (l : Launch) (G : km_G) (re : Int32 → km_S → (km_S → Prop) → Prop) (FR LO : Nat) (hre : ∀ (a : Int32) (μ : km_S) (P : km_S → Prop), re a μ P → km_M l G yX12_readExpression cX12_readExpression 4 none FR LO [.ref (G.1 0), .int a] μ (km_Qv G P)) {p : Program} {e : Env} {s : State} {m : MethodId} {args : Array Value} {below : List Frame} {meth : Method} {c : Code} (F : CallFix p m c cX12_readPart 4 s args kt_ RX12) (hr : meth.sig.returnType = none) (hlocks : meth.locks = false) (Q : km_S → Prop) (k103 : Int32 → Int32 → km_S → Prop) (hk103 : ∀ (l2 : Int32) (l3 : Int32) (μ : km_S) (H : Heap) (locs : List Loc) (ls : Array Slot), k103 l2 l3 μ → km_X G s H locs μ → lv_has ls 4 [(0, .ref (G.1 0)), (2, .int l2), (3, .int l3)] → W p l e { frames := FR + 5, cells := 0, slots := 0, locals := LO + 108 } s m args below meth c H locs 0 0 (MQ below (km_Qv G Q) args s 0 0 (km_A G)) (F0 m 103 ls [])) : ∀ (l2 : Int32) (l3 : Int32) (μ : km_S) (H : Heap) (locs : List Loc) (ls : Array Slot), wX12_readPart_124 re k103 Q l2 l3 μ → km_X G s H locs μ → lv_has ls 4 [(0, .ref (G.1 0)), (2, .int l2), (3, .int l3)] → W p l e { frames := FR + 5, cells := 0, slots := 0, locals := LO + 108 } s m args below meth c H locs 0 0 (MQ below (km_Qv G Q) args s 0 0 (km_A G)) (F0 m 124 ls []) := by
  intro l2 l3 μ H locs ls h C hl
  obtain ⟨v1, ev1⟩ : ∃ z9 : Int32, z9 = l3 + 1 := ⟨_, rfl⟩
  have h := h v1 ev1
  refine lv_iinc (v := v1) (lv' := [(3, .int v1), (0, .ref (G.1 0)), (2, .int l2)]) F.1 F.2.1 dX12_readPart_124 hl (k := 2) rfl (by rw [ev1]; rfl) (by decide) rfl (fun ls hl => ?_)
  refine lv_goto (tgt := 103) F.1 F.2.1 dX12_readPart_127 (by decide) ?_
  exact hk103 l2 v1 μ H locs ls h C (lv_sub hl [1, 2, 0] rfl)
set_option maxRecDepth 100000 in
set_option maxHeartbeats 4000000 in
theorem tX12_readPart_200 (l : Launch) (G : km_G) (re : Int32 → km_S → (km_S → Prop) → Prop) (FR LO : Nat) (hre : ∀ (a : Int32) (μ : km_S) (P : km_S → Prop), re a μ P → km_M l G yX12_readExpression cX12_readExpression 4 none FR LO [.ref (G.1 0), .int a] μ (km_Qv G P)) {p : Program} {e : Env} {s : State} {m : MethodId} {args : Array Value} {below : List Frame} {meth : Method} {c : Code} (F : CallFix p m c cX12_readPart 4 s args kt_ RX12) (hr : meth.sig.returnType = none) (hlocks : meth.locks = false) (Q : km_S → Prop) : ∀ (μ : km_S) (H : Heap) (locs : List Loc) (ls : Array Slot), wX12_readPart_200 re Q μ → km_X G s H locs μ → lv_has ls 4 [(0, .ref (G.1 0))] → W p l e { frames := FR + 5, cells := 0, slots := 0, locals := LO + 108 } s m args below meth c H locs 0 0 (MQ below (km_Qv G Q) args s 0 0 (km_A G)) (F0 m 200 ls []) := by
  intro  μ H locs ls h C hl
  refine lv_aload_n F.1 F.2.1 dX12_readPart_200 rfl (lv_at hl 0 rfl) ?_
  refine kg_bad F C dX12_readPart_201 ?_
  refine lv_if_ne (tgt := 211) F.1 F.2.1 dX12_readPart_204 (by decide) (fun c2 => ?_) (fun c2 => ?_)
  · have h := h.1 c2
    exact km_vret F C hr hlocks h dX12_readPart_211
  · have h := h.2 c2
    refine lv_aload_n F.1 F.2.1 dX12_readPart_207 rfl (lv_at hl 0 rfl) ?_
    refine kc_X12_step F C h (by dsimp only; omega) (by dsimp only; omega) hl.1 (by simp [Value.category]) dX12_readPart_208 (fun μ3 H locs h C => ?_)
    exact km_vret F C hr hlocks h dX12_readPart_211
set_option maxRecDepth 100000 in
set_option maxHeartbeats 4000000 in
theorem tX12_readPart_140 (l : Launch) (G : km_G) (re : Int32 → km_S → (km_S → Prop) → Prop) (FR LO : Nat) (hre : ∀ (a : Int32) (μ : km_S) (P : km_S → Prop), re a μ P → km_M l G yX12_readExpression cX12_readExpression 4 none FR LO [.ref (G.1 0), .int a] μ (km_Qv G P)) {p : Program} {e : Env} {s : State} {m : MethodId} {args : Array Value} {below : List Frame} {meth : Method} {c : Code} (F : CallFix p m c cX12_readPart 4 s args kt_ RX12) (hr : meth.sig.returnType = none) (hlocks : meth.locks = false) (Q : km_S → Prop) (k200 : km_S → Prop) (hk200 : ∀  (μ : km_S) (H : Heap) (locs : List Loc) (ls : Array Slot), k200  μ → km_X G s H locs μ → lv_has ls 4 [(0, .ref (G.1 0))] → W p l e { frames := FR + 5, cells := 0, slots := 0, locals := LO + 108 } s m args below meth c H locs 0 0 (MQ below (km_Qv G Q) args s 0 0 (km_A G)) (F0 m 200 ls [])) : ∀ (l2 : Int32) (μ : km_S) (H : Heap) (locs : List Loc) (ls : Array Slot), wX12_readPart_140 re k200 Q l2 μ → km_X G s H locs μ → lv_has ls 4 [(0, .ref (G.1 0)), (2, .int l2)] → W p l e { frames := FR + 5, cells := 0, slots := 0, locals := LO + 108 } s m args below meth c H locs 0 0 (MQ below (km_Qv G Q) args s 0 0 (km_A G)) (F0 m 140 ls []) := by
  intro l2 μ H locs ls h C hl
  refine lv_aload_n F.1 F.2.1 dX12_readPart_140 rfl (lv_at hl 0 rfl) ?_
  refine lv_bipush (v := 20) F.1 F.2.1 dX12_readPart_141 (by decide) ?_
  refine lv_iload_n F.1 F.2.1 dX12_readPart_143 rfl (lv_at hl 1 rfl) ?_
  refine lv_iadd (x := 20) (y := l2) F.1 F.2.1 dX12_readPart_144 ?_
  refine kc_X12_emit F C h (by dsimp only; omega) (by dsimp only; omega) hl.1 (by simp [Value.category]) dX12_readPart_145 (fun μ4 H locs h C => ?_)
  refine lv_goto (tgt := 200) F.1 F.2.1 dX12_readPart_148 (by decide) ?_
  exact hk200 μ4 H locs ls h C (lv_sub hl [0] rfl)
set_option maxRecDepth 100000 in
set_option maxHeartbeats 4000000 in
theorem tX12_readPart_78 (l : Launch) (G : km_G) (re : Int32 → km_S → (km_S → Prop) → Prop) (FR LO : Nat) (hre : ∀ (a : Int32) (μ : km_S) (P : km_S → Prop), re a μ P → km_M l G yX12_readExpression cX12_readExpression 4 none FR LO [.ref (G.1 0), .int a] μ (km_Qv G P)) {p : Program} {e : Env} {s : State} {m : MethodId} {args : Array Value} {below : List Frame} {meth : Method} {c : Code} (F : CallFix p m c cX12_readPart 4 s args kt_ RX12) (hr : meth.sig.returnType = none) (hlocks : meth.locks = false) (Q : km_S → Prop) (k200 : km_S → Prop) (hk200 : ∀  (μ : km_S) (H : Heap) (locs : List Loc) (ls : Array Slot), k200  μ → km_X G s H locs μ → lv_has ls 4 [(0, .ref (G.1 0))] → W p l e { frames := FR + 5, cells := 0, slots := 0, locals := LO + 108 } s m args below meth c H locs 0 0 (MQ below (km_Qv G Q) args s 0 0 (km_A G)) (F0 m 200 ls [])) : ∀ (l2 : Int32) (μ : km_S) (H : Heap) (locs : List Loc) (ls : Array Slot), wX12_readPart_78 re k200 Q l2 μ → km_X G s H locs μ → lv_has ls 4 [(0, .ref (G.1 0)), (2, .int l2)] → W p l e { frames := FR + 5, cells := 0, slots := 0, locals := LO + 108 } s m args below meth c H locs 0 0 (MQ below (km_Qv G Q) args s 0 0 (km_A G)) (F0 m 78 ls []) := by
  intro l2 μ H locs ls h C hl
  refine lv_aload_n F.1 F.2.1 dX12_readPart_78 rfl (lv_at hl 0 rfl) ?_
  refine lv_iconst (v := 0) F.1 F.2.1 dX12_readPart_79 (by decide) ?_
  refine kc_X12_emit F C h (by dsimp only; omega) (by dsimp only; omega) hl.1 (by simp [Value.category]) dX12_readPart_80 (fun μ5 H locs h C => ?_)
  refine lv_aload_n F.1 F.2.1 dX12_readPart_83 rfl (lv_at hl 0 rfl) ?_
  refine lv_iload_n F.1 F.2.1 dX12_readPart_84 rfl (lv_at hl 1 rfl) ?_
  refine kc_X12_emit F C h (by dsimp only; omega) (by dsimp only; omega) hl.1 (by simp [Value.category]) dX12_readPart_85 (fun μ6 H locs h C => ?_)
  refine lv_goto (tgt := 200) F.1 F.2.1 dX12_readPart_88 (by decide) ?_
  exact hk200 μ6 H locs ls h C (lv_sub hl [0] rfl)
set_option maxRecDepth 100000 in
set_option maxHeartbeats 4000000 in
theorem tX12_readPart_130 (l : Launch) (G : km_G) (re : Int32 → km_S → (km_S → Prop) → Prop) (FR LO : Nat) (hre : ∀ (a : Int32) (μ : km_S) (P : km_S → Prop), re a μ P → km_M l G yX12_readExpression cX12_readExpression 4 none FR LO [.ref (G.1 0), .int a] μ (km_Qv G P)) {p : Program} {e : Env} {s : State} {m : MethodId} {args : Array Value} {below : List Frame} {meth : Method} {c : Code} (F : CallFix p m c cX12_readPart 4 s args kt_ RX12) (hr : meth.sig.returnType = none) (hlocks : meth.locks = false) (Q : km_S → Prop) (k200 : km_S → Prop) (hk200 : ∀  (μ : km_S) (H : Heap) (locs : List Loc) (ls : Array Slot), k200  μ → km_X G s H locs μ → lv_has ls 4 [(0, .ref (G.1 0))] → W p l e { frames := FR + 5, cells := 0, slots := 0, locals := LO + 108 } s m args below meth c H locs 0 0 (MQ below (km_Qv G Q) args s 0 0 (km_A G)) (F0 m 200 ls [])) : ∀ (l2 : Int32) (μ : km_S) (H : Heap) (locs : List Loc) (ls : Array Slot), wX12_readPart_130 re k200 Q l2 μ → km_X G s H locs μ → lv_has ls 4 [(0, .ref (G.1 0)), (2, .int l2)] → W p l e { frames := FR + 5, cells := 0, slots := 0, locals := LO + 108 } s m args below meth c H locs 0 0 (MQ below (km_Qv G Q) args s 0 0 (km_A G)) (F0 m 130 ls []) := by
  intro l2 μ H locs ls h C hl
  refine lv_iload_n F.1 F.2.1 dX12_readPart_130 rfl (lv_at hl 1 rfl) ?_
  refine lv_iconst (v := (-1)) F.1 F.2.1 dX12_readPart_131 (by decide) ?_
  refine lv_icmp_ne (tgt := 140) F.1 F.2.1 dX12_readPart_132 (by decide) (fun c7 => ?_) (fun c7 => ?_)
  · have h := h.1 c7
    exact tX12_readPart_140 l G re FR LO hre F hr hlocks Q k200 hk200 l2 μ H locs ls h C (lv_sub hl [0, 1] rfl)
  · have h := h.2 c7
    refine lv_aload_n F.1 F.2.1 dX12_readPart_135 rfl (lv_at hl 0 rfl) ?_
    refine lv_iconst (v := 3) F.1 F.2.1 dX12_readPart_136 (by decide) ?_
    refine kc_X12_wrong F C h (by dsimp only; omega) (by dsimp only; omega) hl.1 (by simp [Value.category]) dX12_readPart_137 (fun μ8 H locs h C => ?_)
    exact tX12_readPart_140 l G re FR LO hre F hr hlocks Q k200 hk200 l2 μ8 H locs ls h C (lv_sub hl [0, 1] rfl)
set_option maxRecDepth 100000 in
set_option maxHeartbeats 4000000 in
theorem tX12_readPart_103 (l : Launch) (G : km_G) (re : Int32 → km_S → (km_S → Prop) → Prop) (FR LO : Nat) (hre : ∀ (a : Int32) (μ : km_S) (P : km_S → Prop), re a μ P → km_M l G yX12_readExpression cX12_readExpression 4 none FR LO [.ref (G.1 0), .int a] μ (km_Qv G P)) {p : Program} {e : Env} {s : State} {m : MethodId} {args : Array Value} {below : List Frame} {meth : Method} {c : Code} (F : CallFix p m c cX12_readPart 4 s args kt_ RX12) (hr : meth.sig.returnType = none) (hlocks : meth.locks = false) (Q : km_S → Prop) (k130 : Int32 → km_S → Prop) (hk130 : ∀ (l2 : Int32) (μ : km_S) (H : Heap) (locs : List Loc) (ls : Array Slot), k130 l2 μ → km_X G s H locs μ → lv_has ls 4 [(0, .ref (G.1 0)), (2, .int l2)] → W p l e { frames := FR + 5, cells := 0, slots := 0, locals := LO + 108 } s m args below meth c H locs 0 0 (MQ below (km_Qv G Q) args s 0 0 (km_A G)) (F0 m 130 ls [])) : ∀ (n : Nat) (l2 : Int32) (l3 : Int32) (μ : km_S) (H : Heap) (locs : List Loc) (ls : Array Slot), wX12_readPart_103 re k130 Q n l2 l3 μ → km_X G s H locs μ → lv_has ls 4 [(0, .ref (G.1 0)), (2, .int l2), (3, .int l3)] → W p l e { frames := FR + 5, cells := 0, slots := 0, locals := LO + 108 } s m args below meth c H locs 0 0 (MQ below (km_Qv G Q) args s 0 0 (km_A G)) (F0 m 103 ls []) := by
  intro n
  induction n with
  | zero => intro l2 l3 μ H locs ls h; exact h.elim
  | succ n ih =>
    intro l2 l3 μ H locs ls h C hl
    refine lv_iload_n F.1 F.2.1 dX12_readPart_103 rfl (lv_at hl 2 rfl) ?_
    refine lv_bipush (v := 7) F.1 F.2.1 dX12_readPart_104 (by decide) ?_
    refine lv_icmp_ge (tgt := 130) F.1 F.2.1 dX12_readPart_106 (by decide) (fun c9 => ?_) (fun c9 => ?_)
    · have h := h.1 c9
      exact hk130 l2 μ H locs ls h C (lv_sub hl [0, 1] rfl)
    · have h := h.2 c9
      refine lv_aload_n F.1 F.2.1 dX12_readPart_109 rfl (lv_at hl 0 rfl) ?_
      refine lv_aload_n F.1 F.2.1 dX12_readPart_110 rfl (lv_at hl 0 rfl) ?_
      refine kg_names F C dX12_readPart_111 ?_
      refine lv_iload_n F.1 F.2.1 dX12_readPart_114 rfl (lv_at hl 2 rfl) ?_
      obtain ⟨hn10, h⟩ := h
      refine kl_names F C hn10 dX12_readPart_115 ?_
      refine kc_X12_isWord F C h (by dsimp only; omega) (by dsimp only; omega) hl.1 (by simp [Value.category]) dX12_readPart_116 (fun r12 μ11 H locs h C => ?_)
      refine lv_if_eq (tgt := 124) F.1 F.2.1 dX12_readPart_119 (by decide) (fun c13 => ?_) (fun c13 => ?_)
      · have h := h.1 c13
        exact tX12_readPart_124 l G re FR LO hre F hr hlocks Q (wX12_readPart_103 re k130 Q n) (fun l2 l3 μ9 H locs ls h C hl => ih l2 l3 μ9 H locs ls h C hl) l2 l3 μ11 H locs ls h C (lv_sub hl [0, 1, 2] rfl)
      · have h := h.2 c13
        refine lv_iload_n F.1 F.2.1 dX12_readPart_122 rfl (lv_at hl 2 rfl) ?_
        refine lv_istore_n (lv' := [(2, .int l3), (0, .ref (G.1 0)), (3, .int l3)]) F.1 F.2.1 dX12_readPart_123 rfl hl (by decide) rfl (fun ls hl => ?_)
        exact tX12_readPart_124 l G re FR LO hre F hr hlocks Q (wX12_readPart_103 re k130 Q n) (fun l2 l3 μ9 H locs ls h C hl => ih l2 l3 μ9 H locs ls h C hl) l3 l3 μ11 H locs ls h C (lv_sub hl [1, 0, 2] rfl)
set_option maxRecDepth 100000 in
set_option maxHeartbeats 4000000 in
theorem tX12_readPart_42 (l : Launch) (G : km_G) (re : Int32 → km_S → (km_S → Prop) → Prop) (FR LO : Nat) (hre : ∀ (a : Int32) (μ : km_S) (P : km_S → Prop), re a μ P → km_M l G yX12_readExpression cX12_readExpression 4 none FR LO [.ref (G.1 0), .int a] μ (km_Qv G P)) {p : Program} {e : Env} {s : State} {m : MethodId} {args : Array Value} {below : List Frame} {meth : Method} {c : Code} (F : CallFix p m c cX12_readPart 4 s args kt_ RX12) (hr : meth.sig.returnType = none) (hlocks : meth.locks = false) (Q : km_S → Prop) (k78 : Int32 → km_S → Prop) (hk78 : ∀ (l2 : Int32) (μ : km_S) (H : Heap) (locs : List Loc) (ls : Array Slot), k78 l2 μ → km_X G s H locs μ → lv_has ls 4 [(0, .ref (G.1 0)), (2, .int l2)] → W p l e { frames := FR + 5, cells := 0, slots := 0, locals := LO + 108 } s m args below meth c H locs 0 0 (MQ below (km_Qv G Q) args s 0 0 (km_A G)) (F0 m 78 ls [])) : ∀ (n : Nat) (l2 : Int32) (l3 : Int32) (μ : km_S) (H : Heap) (locs : List Loc) (ls : Array Slot), wX12_readPart_42 re k78 Q n l2 l3 μ → km_X G s H locs μ → lv_has ls 4 [(0, .ref (G.1 0)), (2, .int l2), (3, .int l3)] → W p l e { frames := FR + 5, cells := 0, slots := 0, locals := LO + 108 } s m args below meth c H locs 0 0 (MQ below (km_Qv G Q) args s 0 0 (km_A G)) (F0 m 42 ls []) := by
  intro n
  induction n with
  | zero => intro l2 l3 μ H locs ls h; exact h.elim
  | succ n ih =>
    intro l2 l3 μ H locs ls h C hl
    refine lv_iload_n F.1 F.2.1 dX12_readPart_42 rfl (lv_at hl 2 rfl) ?_
    refine lv_aload_n F.1 F.2.1 dX12_readPart_43 rfl (lv_at hl 0 rfl) ?_
    refine kg_ends F C dX12_readPart_44 ?_
    refine lv_icmp_ge (tgt := 78) F.1 F.2.1 dX12_readPart_47 (by decide) (fun c14 => ?_) (fun c14 => ?_)
    · have h := h.1 c14
      exact hk78 l2 μ H locs ls h C (lv_sub hl [0, 1] rfl)
    · have h := h.2 c14
      refine lv_aload_n F.1 F.2.1 dX12_readPart_50 rfl (lv_at hl 0 rfl) ?_
      refine kg_bad F C dX12_readPart_51 ?_
      refine lv_if_ne (tgt := 78) F.1 F.2.1 dX12_readPart_54 (by decide) (fun c15 => ?_) (fun c15 => ?_)
      · have h := h.1 c15
        exact hk78 l2 μ H locs ls h C (lv_sub hl [0, 1] rfl)
      · have h := h.2 c15
        refine lv_bipush (v := 10) F.1 F.2.1 dX12_readPart_57 (by decide) ?_
        refine lv_iload_n F.1 F.2.1 dX12_readPart_59 rfl (lv_at hl 1 rfl) ?_
        refine lv_imul (x := 10) (y := l2) F.1 F.2.1 dX12_readPart_60 ?_
        refine lv_aload_n F.1 F.2.1 dX12_readPart_61 rfl (lv_at hl 0 rfl) ?_
        refine kg_tape F C dX12_readPart_62 ?_
        refine lv_iload_n F.1 F.2.1 dX12_readPart_65 rfl (lv_at hl 2 rfl) ?_
        obtain ⟨hn16, h⟩ := h
        refine kl_tape F C hn16 dX12_readPart_66 ?_
        refine lv_iadd (x := 10 * l2) (y := km_a μ 52 l3.toNatClampNeg) F.1 F.2.1 dX12_readPart_67 ?_
        refine lv_bipush (v := 48) F.1 F.2.1 dX12_readPart_68 (by decide) ?_
        refine lv_isub (x := (10 * l2) + (km_a μ 52 l3.toNatClampNeg)) (y := 48) F.1 F.2.1 dX12_readPart_70 ?_
        refine lv_topi (fun v17 ev17 => ?_)
        have h := h v17 ev17
        refine lv_istore_n (lv' := [(2, .int v17), (0, .ref (G.1 0)), (3, .int l3)]) F.1 F.2.1 dX12_readPart_71 rfl hl (by decide) rfl (fun ls hl => ?_)
        obtain ⟨v18, ev18⟩ : ∃ z9 : Int32, z9 = l3 + 1 := ⟨_, rfl⟩
        have h := h v18 ev18
        refine lv_iinc (v := v18) (lv' := [(3, .int v18), (2, .int v17), (0, .ref (G.1 0))]) F.1 F.2.1 dX12_readPart_72 hl (k := 2) rfl (by rw [ev18]; rfl) (by decide) rfl (fun ls hl => ?_)
        refine lv_goto (tgt := 42) F.1 F.2.1 dX12_readPart_75 (by decide) ?_
        exact ih v17 v18 μ H locs ls h C (lv_sub hl [2, 1, 0] rfl)
set_option maxRecDepth 100000 in
set_option maxHeartbeats 4000000 in
theorem tX12_readPart_35 (l : Launch) (G : km_G) (re : Int32 → km_S → (km_S → Prop) → Prop) (FR LO : Nat) (hre : ∀ (a : Int32) (μ : km_S) (P : km_S → Prop), re a μ P → km_M l G yX12_readExpression cX12_readExpression 4 none FR LO [.ref (G.1 0), .int a] μ (km_Qv G P)) {p : Program} {e : Env} {s : State} {m : MethodId} {args : Array Value} {below : List Frame} {meth : Method} {c : Code} (F : CallFix p m c cX12_readPart 4 s args kt_ RX12) (hr : meth.sig.returnType = none) (hlocks : meth.locks = false) (Q : km_S → Prop) (k200 : km_S → Prop) (hk200 : ∀  (μ : km_S) (H : Heap) (locs : List Loc) (ls : Array Slot), k200  μ → km_X G s H locs μ → lv_has ls 4 [(0, .ref (G.1 0))] → W p l e { frames := FR + 5, cells := 0, slots := 0, locals := LO + 108 } s m args below meth c H locs 0 0 (MQ below (km_Qv G Q) args s 0 0 (km_A G)) (F0 m 200 ls [])) : ∀ (μ : km_S) (H : Heap) (locs : List Loc) (ls : Array Slot), wX12_readPart_35 re k200 Q μ → km_X G s H locs μ → lv_has ls 4 [(0, .ref (G.1 0))] → W p l e { frames := FR + 5, cells := 0, slots := 0, locals := LO + 108 } s m args below meth c H locs 0 0 (MQ below (km_Qv G Q) args s 0 0 (km_A G)) (F0 m 35 ls []) := by
  intro  μ H locs ls h C hl
  refine lv_iconst (v := 0) F.1 F.2.1 dX12_readPart_35 (by decide) ?_
  refine lv_istore_n (lv' := [(2, .int 0), (0, .ref (G.1 0))]) F.1 F.2.1 dX12_readPart_36 rfl hl (by decide) rfl (fun ls hl => ?_)
  refine lv_aload_n F.1 F.2.1 dX12_readPart_37 rfl (lv_at hl 1 rfl) ?_
  refine kg_begins F C dX12_readPart_38 ?_
  refine lv_topi (fun v19 ev19 => ?_)
  have h := h v19 ev19
  refine lv_istore_n (lv' := [(3, .int v19), (2, .int 0), (0, .ref (G.1 0))]) F.1 F.2.1 dX12_readPart_41 rfl hl (by decide) rfl (fun ls hl => ?_)
  obtain ⟨n20, h⟩ := h
  exact tX12_readPart_42 l G re FR LO hre F hr hlocks Q (wX12_readPart_78 re k200 Q) (tX12_readPart_78 l G re FR LO hre F hr hlocks Q k200 hk200) n20 0 v19 μ H locs ls h C (lv_sub hl [2, 1, 0] rfl)
set_option maxRecDepth 100000 in
set_option maxHeartbeats 4000000 in
theorem hc_X12_readPart (l : Launch) (G : km_G) (re : Int32 → km_S → (km_S → Prop) → Prop) (FR LO : Nat) (hre : ∀ (a : Int32) (μ : km_S) (P : km_S → Prop), re a μ P → km_M l G yX12_readExpression cX12_readExpression 4 none FR LO [.ref (G.1 0), .int a] μ (km_Qv G P)) (l1 : Int32) (μ : km_S) (Q : km_S → Prop) (h : wX12_readPart re l1 μ Q) : km_M l G yX12_readPart cX12_readPart 4 none (FR + 5) (LO + 108) [.ref (G.1 0), .int l1] μ (km_Qv G Q) := by
  refine km_enter (by decide) rfl (Nat.le_of_ble_eq_true rfl) ?_
  intro p e s m below meth c ls F hr hlocks C hl
  have hl : lv_has ls 4 [(0, .ref (G.1 0)), (1, .int l1)] := hl
  obtain ⟨H, eH⟩ : ∃ z9, z9 = s.heap := ⟨_, rfl⟩
  obtain ⟨locs, eL⟩ : ∃ z9 : List Loc, z9 = [] := ⟨_, rfl⟩
  rw [← eH, ← eL] at C
  rw [← eH, ← eL]
  refine lv_aload_n F.1 F.2.1 dX12_readPart_0 rfl (lv_at hl 0 rfl) ?_
  refine kg_bad F C dX12_readPart_1 ?_
  refine lv_if_eq (tgt := 8) F.1 F.2.1 dX12_readPart_4 (by decide) (fun c21 => ?_) (fun c21 => ?_)
  · have h := h.1 c21
    refine lv_aload_n F.1 F.2.1 dX12_readPart_8 rfl (lv_at hl 0 rfl) ?_
    refine kg_token F C dX12_readPart_9 ?_
    refine lv_iconst (v := 2) F.1 F.2.1 dX12_readPart_12 (by decide) ?_
    refine lv_icmp_ne (tgt := 91) F.1 F.2.1 dX12_readPart_13 (by decide) (fun c22 => ?_) (fun c22 => ?_)
    · have h := h.1 c22
      refine lv_aload_n F.1 F.2.1 dX12_readPart_91 rfl (lv_at hl 0 rfl) ?_
      refine kg_token F C dX12_readPart_92 ?_
      refine lv_iconst (v := 1) F.1 F.2.1 dX12_readPart_95 (by decide) ?_
      refine lv_icmp_ne (tgt := 151) F.1 F.2.1 dX12_readPart_96 (by decide) (fun c23 => ?_) (fun c23 => ?_)
      · have h := h.1 c23
        refine lv_aload_n F.1 F.2.1 dX12_readPart_151 rfl (lv_at hl 0 rfl) ?_
        refine lv_bipush (v := 40) F.1 F.2.1 dX12_readPart_152 (by decide) ?_
        refine kc_X12_isSign F C h (by dsimp only; omega) (by dsimp only; omega) hl.1 (by simp [Value.category]) dX12_readPart_154 (fun r25 μ24 H locs h C => ?_)
        refine lv_if_eq (tgt := 195) F.1 F.2.1 dX12_readPart_157 (by decide) (fun c26 => ?_) (fun c26 => ?_)
        · have h := h.1 c26
          refine lv_aload_n F.1 F.2.1 dX12_readPart_195 rfl (lv_at hl 0 rfl) ?_
          refine lv_iconst (v := 1) F.1 F.2.1 dX12_readPart_196 (by decide) ?_
          refine kc_X12_wrong F C h (by dsimp only; omega) (by dsimp only; omega) hl.1 (by simp [Value.category]) dX12_readPart_197 (fun μ27 H locs h C => ?_)
          exact tX12_readPart_200 l G re FR LO hre F hr hlocks Q μ27 H locs ls h C (lv_sub hl [0] rfl)
        · have h := h.2 c26
          refine lv_aload_n F.1 F.2.1 dX12_readPart_160 rfl (lv_at hl 0 rfl) ?_
          refine kc_X12_step F C h (by dsimp only; omega) (by dsimp only; omega) hl.1 (by simp [Value.category]) dX12_readPart_161 (fun μ28 H locs h C => ?_)
          refine lv_aload_n F.1 F.2.1 dX12_readPart_164 rfl (lv_at hl 0 rfl) ?_
          refine lv_iload_n F.1 F.2.1 dX12_readPart_165 rfl (lv_at hl 1 rfl) ?_
          refine lv_iconst (v := 1) F.1 F.2.1 dX12_readPart_166 (by decide) ?_
          refine lv_iadd (x := l1) (y := 1) F.1 F.2.1 dX12_readPart_167 ?_
          refine kc_X12_readExpression_re F C (hre (l1 + 1) μ28 _ h) (by dsimp only; omega) (by dsimp only; omega) hl.1 (by simp [Value.category]) dX12_readPart_168 (fun μ29 H locs h C => ?_)
          refine lv_aload_n F.1 F.2.1 dX12_readPart_171 rfl (lv_at hl 0 rfl) ?_
          refine kg_bad F C dX12_readPart_172 ?_
          refine lv_if_ne (tgt := 200) F.1 F.2.1 dX12_readPart_175 (by decide) (fun c30 => ?_) (fun c30 => ?_)
          · have h := h.1 c30
            exact tX12_readPart_200 l G re FR LO hre F hr hlocks Q μ29 H locs ls h C (lv_sub hl [0] rfl)
          · have h := h.2 c30
            refine lv_aload_n F.1 F.2.1 dX12_readPart_178 rfl (lv_at hl 0 rfl) ?_
            refine lv_bipush (v := 41) F.1 F.2.1 dX12_readPart_179 (by decide) ?_
            refine kc_X12_isSign F C h (by dsimp only; omega) (by dsimp only; omega) hl.1 (by simp [Value.category]) dX12_readPart_181 (fun r32 μ31 H locs h C => ?_)
            refine lv_if_ne (tgt := 200) F.1 F.2.1 dX12_readPart_184 (by decide) (fun c33 => ?_) (fun c33 => ?_)
            · have h := h.1 c33
              exact tX12_readPart_200 l G re FR LO hre F hr hlocks Q μ31 H locs ls h C (lv_sub hl [0] rfl)
            · have h := h.2 c33
              refine lv_aload_n F.1 F.2.1 dX12_readPart_187 rfl (lv_at hl 0 rfl) ?_
              refine lv_iconst (v := 1) F.1 F.2.1 dX12_readPart_188 (by decide) ?_
              refine kc_X12_wrong F C h (by dsimp only; omega) (by dsimp only; omega) hl.1 (by simp [Value.category]) dX12_readPart_189 (fun μ34 H locs h C => ?_)
              refine lv_goto (tgt := 200) F.1 F.2.1 dX12_readPart_192 (by decide) ?_
              exact tX12_readPart_200 l G re FR LO hre F hr hlocks Q μ34 H locs ls h C (lv_sub hl [0] rfl)
      · have h := h.2 c23
        refine lv_iconst (v := (-1)) F.1 F.2.1 dX12_readPart_99 (by decide) ?_
        refine lv_istore_n (lv' := [(2, .int (-1)), (0, .ref (G.1 0)), (1, .int l1)]) F.1 F.2.1 dX12_readPart_100 rfl hl (by decide) rfl (fun ls hl => ?_)
        refine lv_iconst (v := 0) F.1 F.2.1 dX12_readPart_101 (by decide) ?_
        refine lv_istore_n (lv' := [(3, .int 0), (2, .int (-1)), (0, .ref (G.1 0)), (1, .int l1)]) F.1 F.2.1 dX12_readPart_102 rfl hl (by decide) rfl (fun ls hl => ?_)
        obtain ⟨n35, h⟩ := h
        exact tX12_readPart_103 l G re FR LO hre F hr hlocks Q (wX12_readPart_130 re (wX12_readPart_200 re Q) Q) (tX12_readPart_130 l G re FR LO hre F hr hlocks Q (wX12_readPart_200 re Q) (tX12_readPart_200 l G re FR LO hre F hr hlocks Q)) n35 (-1) 0 μ H locs ls h C (lv_sub hl [2, 1, 0] rfl)
    · have h := h.2 c22
      refine lv_aload_n F.1 F.2.1 dX12_readPart_16 rfl (lv_at hl 0 rfl) ?_
      refine kg_ends F C dX12_readPart_17 ?_
      refine lv_aload_n F.1 F.2.1 dX12_readPart_20 rfl (lv_at hl 0 rfl) ?_
      refine kg_begins F C dX12_readPart_21 ?_
      refine lv_isub (x := km_i μ 65) (y := km_i μ 64) F.1 F.2.1 dX12_readPart_24 ?_
      refine lv_bipush (v := 6) F.1 F.2.1 dX12_readPart_25 (by decide) ?_
      refine lv_icmp_le (tgt := 35) F.1 F.2.1 dX12_readPart_27 (by decide) (fun c36 => ?_) (fun c36 => ?_)
      · have h := h.1 c36
        exact tX12_readPart_35 l G re FR LO hre F hr hlocks Q (wX12_readPart_200 re Q) (tX12_readPart_200 l G re FR LO hre F hr hlocks Q) μ H locs ls h C (lv_sub hl [0] rfl)
      · have h := h.2 c36
        refine lv_aload_n F.1 F.2.1 dX12_readPart_30 rfl (lv_at hl 0 rfl) ?_
        refine lv_iconst (v := 2) F.1 F.2.1 dX12_readPart_31 (by decide) ?_
        refine kc_X12_wrong F C h (by dsimp only; omega) (by dsimp only; omega) hl.1 (by simp [Value.category]) dX12_readPart_32 (fun μ37 H locs h C => ?_)
        exact tX12_readPart_35 l G re FR LO hre F hr hlocks Q (wX12_readPart_200 re Q) (tX12_readPart_200 l G re FR LO hre F hr hlocks Q) μ37 H locs ls h C (lv_sub hl [0] rfl)
  · have h := h.2 c21
    exact km_vret F C hr hlocks h dX12_readPart_7
section
variable {p : Program} {l : Launch} {e : Env} {R : Room} {s : State} {m : MethodId} {args : Array Value} {below : List Frame} {meth : Method} {c : Code} {H : Heap} {locs : List Loc} {Q : State → Prop}
variable {cc : ByteArray} {pc nL : Nat} {ls : Array Slot} {rest : List Value} {G : km_G} {μ : km_S}
theorem kc_X12_readPart (F : CallFix p m c cc nL s args kt_ RX12) (C : km_X G s H locs μ) {P : km_S → Prop} (re : Int32 → km_S → (km_S → Prop) → Prop) (FR LO : Nat) (hre : ∀ (a : Int32) (μ : km_S) (P : km_S → Prop), re a μ P → km_M l G yX12_readExpression cX12_readExpression 4 none FR LO [.ref (G.1 0), .int a] μ (km_Qv G P)) {l1 : Int32} (h : wX12_readPart re l1 μ P) (h1 : (FR + 5) + 1 ≤ R.frames) (h2 : 8 + (4 + 11) + (LO + 108) ≤ R.locals) (hsz : ls.size = nL) (hW : (rest.map fun v => v.category).sum ≤ 8) (hdg : decode cc pc = .ok (.invokevirtual 283, 3)) (kk : ∀ (μ' : km_S) (H1 : Heap) (locs1 : List Loc), P μ' → km_X G s H1 locs1 μ' → W p l e R s m args below meth c H1 locs1 0 0 Q (F0 m (pc + 3) ls rest)) : W p l e R s m args below meth c H locs 0 0 Q (F0 m pc ls (.int l1 :: .ref (G.1 0) :: rest)) :=
  km_cVv (n := 1) (As := [.int l1]) F C (hc_X12_readPart l G re FR LO hre l1 μ P h) (kt_V tw_260 tw_261 tw_262 tw_151 tw_263) (by decide +kernel) ⟨h1, h2⟩ rfl hsz hW hdg kk
end
theorem dX12_readTerm_0 : decode cX12_readTerm 0 = .ok (.aload_n 0, 1) := by decide +kernel
theorem dX12_readTerm_1 : decode cX12_readTerm 1 = .ok (.iload_n 1, 1) := by decide +kernel
theorem dX12_readTerm_2 : decode cX12_readTerm 2 = .ok (.invokevirtual 283, 3) := by decide +kernel
theorem dX12_readTerm_5 : decode cX12_readTerm 5 = .ok (.aload_n 0, 1) := by decide +kernel
theorem dX12_readTerm_6 : decode cX12_readTerm 6 = .ok (.getfield 232, 3) := by decide +kernel
theorem dX12_readTerm_9 : decode cX12_readTerm 9 = .ok (.ifCond .ne 53, 3) := by decide +kernel
theorem dX12_readTerm_12 : decode cX12_readTerm 12 = .ok (.aload_n 0, 1) := by decide +kernel
theorem dX12_readTerm_13 : decode cX12_readTerm 13 = .ok (.bipush 42, 2) := by decide +kernel
theorem dX12_readTerm_15 : decode cX12_readTerm 15 = .ok (.invokevirtual 262, 3) := by decide +kernel
theorem dX12_readTerm_18 : decode cX12_readTerm 18 = .ok (.ifCond .ne 12, 3) := by decide +kernel
theorem dX12_readTerm_21 : decode cX12_readTerm 21 = .ok (.aload_n 0, 1) := by decide +kernel
theorem dX12_readTerm_22 : decode cX12_readTerm 22 = .ok (.bipush 47, 2) := by decide +kernel
theorem dX12_readTerm_24 : decode cX12_readTerm 24 = .ok (.invokevirtual 262, 3) := by decide +kernel
theorem dX12_readTerm_27 : decode cX12_readTerm 27 = .ok (.ifCond .eq 35, 3) := by decide +kernel
theorem dX12_readTerm_30 : decode cX12_readTerm 30 = .ok (.aload_n 0, 1) := by decide +kernel
theorem dX12_readTerm_31 : decode cX12_readTerm 31 = .ok (.bipush 42, 2) := by decide +kernel
theorem dX12_readTerm_33 : decode cX12_readTerm 33 = .ok (.invokevirtual 262, 3) := by decide +kernel
theorem dX12_readTerm_36 : decode cX12_readTerm 36 = .ok (.ifCond .eq 7, 3) := by decide +kernel
theorem dX12_readTerm_39 : decode cX12_readTerm 39 = .ok (.iconst 3, 1) := by decide +kernel
theorem dX12_readTerm_40 : decode cX12_readTerm 40 = .ok (.goto 4, 3) := by decide +kernel
theorem dX12_readTerm_43 : decode cX12_readTerm 43 = .ok (.iconst 4, 1) := by decide +kernel
theorem dX12_readTerm_44 : decode cX12_readTerm 44 = .ok (.istore_n 2, 1) := by decide +kernel
theorem dX12_readTerm_45 : decode cX12_readTerm 45 = .ok (.aload_n 0, 1) := by decide +kernel
theorem dX12_readTerm_46 : decode cX12_readTerm 46 = .ok (.invokevirtual 244, 3) := by decide +kernel
theorem dX12_readTerm_49 : decode cX12_readTerm 49 = .ok (.aload_n 0, 1) := by decide +kernel
theorem dX12_readTerm_50 : decode cX12_readTerm 50 = .ok (.iload_n 1, 1) := by decide +kernel
theorem dX12_readTerm_51 : decode cX12_readTerm 51 = .ok (.invokevirtual 283, 3) := by decide +kernel
theorem dX12_readTerm_54 : decode cX12_readTerm 54 = .ok (.aload_n 0, 1) := by decide +kernel
theorem dX12_readTerm_55 : decode cX12_readTerm 55 = .ok (.iload_n 2, 1) := by decide +kernel
theorem dX12_readTerm_56 : decode cX12_readTerm 56 = .ok (.invokevirtual 272, 3) := by decide +kernel
theorem dX12_readTerm_59 : decode cX12_readTerm 59 = .ok (.goto (-54), 3) := by decide +kernel
theorem dX12_readTerm_62 : decode cX12_readTerm 62 = .ok (.return_, 1) := by decide +kernel
def wX12_readTerm_44 (re : Int32 → km_S → (km_S → Prop) → Prop) (k5 : Int32 → km_S → Prop) (Q : km_S → Prop) (l1 : Int32) (s0 : Int32) (μ : km_S) : Prop := wX12_step μ fun μ1 => wX12_readPart re l1 μ1 fun μ2 => wX12_emit s0 μ2 fun μ3 => k5 l1 μ3
def wX12_readTerm_30 (re : Int32 → km_S → (km_S → Prop) → Prop) (k5 : Int32 → km_S → Prop) (Q : km_S → Prop) (l1 : Int32) (μ : km_S) : Prop := wX12_isSign 42 μ fun r5 μ4 => ((r5 = 0 → wX12_readTerm_44 re k5 Q l1 4 μ4) ∧
  (¬ (r5 = 0) → wX12_readTerm_44 re k5 Q l1 3 μ4))
def wX12_readTerm_5 (re : Int32 → km_S → (km_S → Prop) → Prop) (Q : km_S → Prop) : Nat → Int32 → km_S → Prop
  | 0, _, _ => False
  | n + 1, l1, μ => ((¬ (km_i μ 66) = 0 → Q μ) ∧
    ((km_i μ 66) = 0 → wX12_isSign 42 μ fun r9 μ8 => ((¬ r9 = 0 → wX12_readTerm_30 re (wX12_readTerm_5 re Q n) Q l1 μ8) ∧
      (r9 = 0 → wX12_isSign 47 μ8 fun r12 μ11 => ((r12 = 0 → Q μ11) ∧
        (¬ (r12 = 0) → wX12_readTerm_30 re (wX12_readTerm_5 re Q n) Q l1 μ11))))))
def wX12_readTerm (re : Int32 → km_S → (km_S → Prop) → Prop) (l1 : Int32) (μ : km_S) (Q : km_S → Prop) : Prop := wX12_readPart re l1 μ fun μ14 => ∃ j, wX12_readTerm_5 re Q j l1 μ14
set_option maxRecDepth 100000 in
set_option maxHeartbeats 4000000 in
theorem tX12_readTerm_44 (l : Launch) (G : km_G) (re : Int32 → km_S → (km_S → Prop) → Prop) (FR LO : Nat) (hre : ∀ (a : Int32) (μ : km_S) (P : km_S → Prop), re a μ P → km_M l G yX12_readExpression cX12_readExpression 4 none FR LO [.ref (G.1 0), .int a] μ (km_Qv G P)) {p : Program} {e : Env} {s : State} {m : MethodId} {args : Array Value} {below : List Frame} {meth : Method} {c : Code} (F : CallFix p m c cX12_readTerm 3 s args kt_ RX12) (hr : meth.sig.returnType = none) (hlocks : meth.locks = false) (Q : km_S → Prop) (k5 : Int32 → km_S → Prop) (hk5 : ∀ (l1 : Int32) (μ : km_S) (H : Heap) (locs : List Loc) (ls : Array Slot), k5 l1 μ → km_X G s H locs μ → lv_has ls 3 [(0, .ref (G.1 0)), (1, .int l1)] → W p l e { frames := FR + 6, cells := 0, slots := 0, locals := LO + 131 } s m args below meth c H locs 0 0 (MQ below (km_Qv G Q) args s 0 0 (km_A G)) (F0 m 5 ls [])) : ∀ (l1 : Int32) (s0 : Int32) (μ : km_S) (H : Heap) (locs : List Loc) (ls : Array Slot), wX12_readTerm_44 re k5 Q l1 s0 μ → km_X G s H locs μ → lv_has ls 3 [(0, .ref (G.1 0)), (1, .int l1)] → W p l e { frames := FR + 6, cells := 0, slots := 0, locals := LO + 131 } s m args below meth c H locs 0 0 (MQ below (km_Qv G Q) args s 0 0 (km_A G)) (F0 m 44 ls [.int s0]) := by
  intro l1 s0 μ H locs ls h C hl
  refine lv_istore_n (lv' := [(2, .int s0), (0, .ref (G.1 0)), (1, .int l1)]) F.1 F.2.1 dX12_readTerm_44 rfl hl (by decide) rfl (fun ls hl => ?_)
  refine lv_aload_n F.1 F.2.1 dX12_readTerm_45 rfl (lv_at hl 1 rfl) ?_
  refine kc_X12_step F C h (by dsimp only; omega) (by dsimp only; omega) hl.1 (by simp [Value.category]) dX12_readTerm_46 (fun μ1 H locs h C => ?_)
  refine lv_aload_n F.1 F.2.1 dX12_readTerm_49 rfl (lv_at hl 1 rfl) ?_
  refine lv_iload_n F.1 F.2.1 dX12_readTerm_50 rfl (lv_at hl 2 rfl) ?_
  refine kc_X12_readPart F C re FR LO hre h (by dsimp only; omega) (by dsimp only; omega) hl.1 (by simp [Value.category]) dX12_readTerm_51 (fun μ2 H locs h C => ?_)
  refine lv_aload_n F.1 F.2.1 dX12_readTerm_54 rfl (lv_at hl 1 rfl) ?_
  refine lv_iload_n F.1 F.2.1 dX12_readTerm_55 rfl (lv_at hl 0 rfl) ?_
  refine kc_X12_emit F C h (by dsimp only; omega) (by dsimp only; omega) hl.1 (by simp [Value.category]) dX12_readTerm_56 (fun μ3 H locs h C => ?_)
  refine lv_goto (tgt := 5) F.1 F.2.1 dX12_readTerm_59 (by decide) ?_
  exact hk5 l1 μ3 H locs ls h C (lv_sub hl [1, 2] rfl)
set_option maxRecDepth 100000 in
set_option maxHeartbeats 4000000 in
theorem tX12_readTerm_30 (l : Launch) (G : km_G) (re : Int32 → km_S → (km_S → Prop) → Prop) (FR LO : Nat) (hre : ∀ (a : Int32) (μ : km_S) (P : km_S → Prop), re a μ P → km_M l G yX12_readExpression cX12_readExpression 4 none FR LO [.ref (G.1 0), .int a] μ (km_Qv G P)) {p : Program} {e : Env} {s : State} {m : MethodId} {args : Array Value} {below : List Frame} {meth : Method} {c : Code} (F : CallFix p m c cX12_readTerm 3 s args kt_ RX12) (hr : meth.sig.returnType = none) (hlocks : meth.locks = false) (Q : km_S → Prop) (k5 : Int32 → km_S → Prop) (hk5 : ∀ (l1 : Int32) (μ : km_S) (H : Heap) (locs : List Loc) (ls : Array Slot), k5 l1 μ → km_X G s H locs μ → lv_has ls 3 [(0, .ref (G.1 0)), (1, .int l1)] → W p l e { frames := FR + 6, cells := 0, slots := 0, locals := LO + 131 } s m args below meth c H locs 0 0 (MQ below (km_Qv G Q) args s 0 0 (km_A G)) (F0 m 5 ls [])) : ∀ (l1 : Int32) (μ : km_S) (H : Heap) (locs : List Loc) (ls : Array Slot), wX12_readTerm_30 re k5 Q l1 μ → km_X G s H locs μ → lv_has ls 3 [(0, .ref (G.1 0)), (1, .int l1)] → W p l e { frames := FR + 6, cells := 0, slots := 0, locals := LO + 131 } s m args below meth c H locs 0 0 (MQ below (km_Qv G Q) args s 0 0 (km_A G)) (F0 m 30 ls []) := by
  intro l1 μ H locs ls h C hl
  refine lv_aload_n F.1 F.2.1 dX12_readTerm_30 rfl (lv_at hl 0 rfl) ?_
  refine lv_bipush (v := 42) F.1 F.2.1 dX12_readTerm_31 (by decide) ?_
  refine kc_X12_isSign F C h (by dsimp only; omega) (by dsimp only; omega) hl.1 (by simp [Value.category]) dX12_readTerm_33 (fun r5 μ4 H locs h C => ?_)
  refine lv_if_eq (tgt := 43) F.1 F.2.1 dX12_readTerm_36 (by decide) (fun c6 => ?_) (fun c6 => ?_)
  · have h := h.1 c6
    refine lv_iconst (v := 4) F.1 F.2.1 dX12_readTerm_43 (by decide) ?_
    exact tX12_readTerm_44 l G re FR LO hre F hr hlocks Q k5 hk5 l1 4 μ4 H locs ls h C (lv_sub hl [0, 1] rfl)
  · have h := h.2 c6
    refine lv_iconst (v := 3) F.1 F.2.1 dX12_readTerm_39 (by decide) ?_
    refine lv_goto (tgt := 44) F.1 F.2.1 dX12_readTerm_40 (by decide) ?_
    exact tX12_readTerm_44 l G re FR LO hre F hr hlocks Q k5 hk5 l1 3 μ4 H locs ls h C (lv_sub hl [0, 1] rfl)
set_option maxRecDepth 100000 in
set_option maxHeartbeats 4000000 in
theorem tX12_readTerm_5 (l : Launch) (G : km_G) (re : Int32 → km_S → (km_S → Prop) → Prop) (FR LO : Nat) (hre : ∀ (a : Int32) (μ : km_S) (P : km_S → Prop), re a μ P → km_M l G yX12_readExpression cX12_readExpression 4 none FR LO [.ref (G.1 0), .int a] μ (km_Qv G P)) {p : Program} {e : Env} {s : State} {m : MethodId} {args : Array Value} {below : List Frame} {meth : Method} {c : Code} (F : CallFix p m c cX12_readTerm 3 s args kt_ RX12) (hr : meth.sig.returnType = none) (hlocks : meth.locks = false) (Q : km_S → Prop) : ∀ (n : Nat) (l1 : Int32) (μ : km_S) (H : Heap) (locs : List Loc) (ls : Array Slot), wX12_readTerm_5 re Q n l1 μ → km_X G s H locs μ → lv_has ls 3 [(0, .ref (G.1 0)), (1, .int l1)] → W p l e { frames := FR + 6, cells := 0, slots := 0, locals := LO + 131 } s m args below meth c H locs 0 0 (MQ below (km_Qv G Q) args s 0 0 (km_A G)) (F0 m 5 ls []) := by
  intro n
  induction n with
  | zero => intro l1 μ H locs ls h; exact h.elim
  | succ n ih =>
    intro l1 μ H locs ls h C hl
    refine lv_aload_n F.1 F.2.1 dX12_readTerm_5 rfl (lv_at hl 0 rfl) ?_
    refine kg_bad F C dX12_readTerm_6 ?_
    refine lv_if_ne (tgt := 62) F.1 F.2.1 dX12_readTerm_9 (by decide) (fun c7 => ?_) (fun c7 => ?_)
    · have h := h.1 c7
      exact km_vret F C hr hlocks h dX12_readTerm_62
    · have h := h.2 c7
      refine lv_aload_n F.1 F.2.1 dX12_readTerm_12 rfl (lv_at hl 0 rfl) ?_
      refine lv_bipush (v := 42) F.1 F.2.1 dX12_readTerm_13 (by decide) ?_
      refine kc_X12_isSign F C h (by dsimp only; omega) (by dsimp only; omega) hl.1 (by simp [Value.category]) dX12_readTerm_15 (fun r9 μ8 H locs h C => ?_)
      refine lv_if_ne (tgt := 30) F.1 F.2.1 dX12_readTerm_18 (by decide) (fun c10 => ?_) (fun c10 => ?_)
      · have h := h.1 c10
        exact tX12_readTerm_30 l G re FR LO hre F hr hlocks Q (wX12_readTerm_5 re Q n) (fun l1 μ9 H locs ls h C hl => ih l1 μ9 H locs ls h C hl) l1 μ8 H locs ls h C (lv_sub hl [0, 1] rfl)
      · have h := h.2 c10
        refine lv_aload_n F.1 F.2.1 dX12_readTerm_21 rfl (lv_at hl 0 rfl) ?_
        refine lv_bipush (v := 47) F.1 F.2.1 dX12_readTerm_22 (by decide) ?_
        refine kc_X12_isSign F C h (by dsimp only; omega) (by dsimp only; omega) hl.1 (by simp [Value.category]) dX12_readTerm_24 (fun r12 μ11 H locs h C => ?_)
        refine lv_if_eq (tgt := 62) F.1 F.2.1 dX12_readTerm_27 (by decide) (fun c13 => ?_) (fun c13 => ?_)
        · have h := h.1 c13
          exact km_vret F C hr hlocks h dX12_readTerm_62
        · have h := h.2 c13
          exact tX12_readTerm_30 l G re FR LO hre F hr hlocks Q (wX12_readTerm_5 re Q n) (fun l1 μ9 H locs ls h C hl => ih l1 μ9 H locs ls h C hl) l1 μ11 H locs ls h C (lv_sub hl [0, 1] rfl)
set_option maxRecDepth 100000 in
set_option maxHeartbeats 4000000 in
theorem hc_X12_readTerm (l : Launch) (G : km_G) (re : Int32 → km_S → (km_S → Prop) → Prop) (FR LO : Nat) (hre : ∀ (a : Int32) (μ : km_S) (P : km_S → Prop), re a μ P → km_M l G yX12_readExpression cX12_readExpression 4 none FR LO [.ref (G.1 0), .int a] μ (km_Qv G P)) (l1 : Int32) (μ : km_S) (Q : km_S → Prop) (h : wX12_readTerm re l1 μ Q) : km_M l G yX12_readTerm cX12_readTerm 3 none (FR + 6) (LO + 131) [.ref (G.1 0), .int l1] μ (km_Qv G Q) := by
  refine km_enter (by decide) rfl (Nat.le_of_ble_eq_true rfl) ?_
  intro p e s m below meth c ls F hr hlocks C hl
  have hl : lv_has ls 3 [(0, .ref (G.1 0)), (1, .int l1)] := hl
  obtain ⟨H, eH⟩ : ∃ z9, z9 = s.heap := ⟨_, rfl⟩
  obtain ⟨locs, eL⟩ : ∃ z9 : List Loc, z9 = [] := ⟨_, rfl⟩
  rw [← eH, ← eL] at C
  rw [← eH, ← eL]
  refine lv_aload_n F.1 F.2.1 dX12_readTerm_0 rfl (lv_at hl 0 rfl) ?_
  refine lv_iload_n F.1 F.2.1 dX12_readTerm_1 rfl (lv_at hl 1 rfl) ?_
  refine kc_X12_readPart F C re FR LO hre h (by dsimp only; omega) (by dsimp only; omega) hl.1 (by simp [Value.category]) dX12_readTerm_2 (fun μ14 H locs h C => ?_)
  obtain ⟨n15, h⟩ := h
  exact tX12_readTerm_5 l G re FR LO hre F hr hlocks Q n15 l1 μ14 H locs ls h C (lv_sub hl [0, 1] rfl)
section
variable {p : Program} {l : Launch} {e : Env} {R : Room} {s : State} {m : MethodId} {args : Array Value} {below : List Frame} {meth : Method} {c : Code} {H : Heap} {locs : List Loc} {Q : State → Prop}
variable {cc : ByteArray} {pc nL : Nat} {ls : Array Slot} {rest : List Value} {G : km_G} {μ : km_S}
theorem kc_X12_readTerm (F : CallFix p m c cc nL s args kt_ RX12) (C : km_X G s H locs μ) {P : km_S → Prop} (re : Int32 → km_S → (km_S → Prop) → Prop) (FR LO : Nat) (hre : ∀ (a : Int32) (μ : km_S) (P : km_S → Prop), re a μ P → km_M l G yX12_readExpression cX12_readExpression 4 none FR LO [.ref (G.1 0), .int a] μ (km_Qv G P)) {l1 : Int32} (h : wX12_readTerm re l1 μ P) (h1 : (FR + 6) + 1 ≤ R.frames) (h2 : 8 + (3 + 11) + (LO + 131) ≤ R.locals) (hsz : ls.size = nL) (hW : (rest.map fun v => v.category).sum ≤ 8) (hdg : decode cc pc = .ok (.invokevirtual 280, 3)) (kk : ∀ (μ' : km_S) (H1 : Heap) (locs1 : List Loc), P μ' → km_X G s H1 locs1 μ' → W p l e R s m args below meth c H1 locs1 0 0 Q (F0 m (pc + 3) ls rest)) : W p l e R s m args below meth c H locs 0 0 Q (F0 m pc ls (.int l1 :: .ref (G.1 0) :: rest)) :=
  km_cVv (n := 1) (As := [.int l1]) F C (hc_X12_readTerm l G re FR LO hre l1 μ P h) (kt_V tw_264 tw_265 tw_266 tw_151 tw_267) (by decide +kernel) ⟨h1, h2⟩ rfl hsz hW hdg kk
end
theorem dX12_readSum_0 : decode cX12_readSum 0 = .ok (.aload_n 0, 1) := by decide +kernel
theorem dX12_readSum_1 : decode cX12_readSum 1 = .ok (.iload_n 1, 1) := by decide +kernel
theorem dX12_readSum_2 : decode cX12_readSum 2 = .ok (.invokevirtual 280, 3) := by decide +kernel
theorem dX12_readSum_5 : decode cX12_readSum 5 = .ok (.aload_n 0, 1) := by decide +kernel
theorem dX12_readSum_6 : decode cX12_readSum 6 = .ok (.getfield 232, 3) := by decide +kernel
theorem dX12_readSum_9 : decode cX12_readSum 9 = .ok (.ifCond .ne 53, 3) := by decide +kernel
theorem dX12_readSum_12 : decode cX12_readSum 12 = .ok (.aload_n 0, 1) := by decide +kernel
theorem dX12_readSum_13 : decode cX12_readSum 13 = .ok (.bipush 43, 2) := by decide +kernel
theorem dX12_readSum_15 : decode cX12_readSum 15 = .ok (.invokevirtual 262, 3) := by decide +kernel
theorem dX12_readSum_18 : decode cX12_readSum 18 = .ok (.ifCond .ne 12, 3) := by decide +kernel
theorem dX12_readSum_21 : decode cX12_readSum 21 = .ok (.aload_n 0, 1) := by decide +kernel
theorem dX12_readSum_22 : decode cX12_readSum 22 = .ok (.bipush 45, 2) := by decide +kernel
theorem dX12_readSum_24 : decode cX12_readSum 24 = .ok (.invokevirtual 262, 3) := by decide +kernel
theorem dX12_readSum_27 : decode cX12_readSum 27 = .ok (.ifCond .eq 35, 3) := by decide +kernel
theorem dX12_readSum_30 : decode cX12_readSum 30 = .ok (.aload_n 0, 1) := by decide +kernel
theorem dX12_readSum_31 : decode cX12_readSum 31 = .ok (.bipush 43, 2) := by decide +kernel
theorem dX12_readSum_33 : decode cX12_readSum 33 = .ok (.invokevirtual 262, 3) := by decide +kernel
theorem dX12_readSum_36 : decode cX12_readSum 36 = .ok (.ifCond .eq 7, 3) := by decide +kernel
theorem dX12_readSum_39 : decode cX12_readSum 39 = .ok (.iconst 1, 1) := by decide +kernel
theorem dX12_readSum_40 : decode cX12_readSum 40 = .ok (.goto 4, 3) := by decide +kernel
theorem dX12_readSum_43 : decode cX12_readSum 43 = .ok (.iconst 2, 1) := by decide +kernel
theorem dX12_readSum_44 : decode cX12_readSum 44 = .ok (.istore_n 2, 1) := by decide +kernel
theorem dX12_readSum_45 : decode cX12_readSum 45 = .ok (.aload_n 0, 1) := by decide +kernel
theorem dX12_readSum_46 : decode cX12_readSum 46 = .ok (.invokevirtual 244, 3) := by decide +kernel
theorem dX12_readSum_49 : decode cX12_readSum 49 = .ok (.aload_n 0, 1) := by decide +kernel
theorem dX12_readSum_50 : decode cX12_readSum 50 = .ok (.iload_n 1, 1) := by decide +kernel
theorem dX12_readSum_51 : decode cX12_readSum 51 = .ok (.invokevirtual 280, 3) := by decide +kernel
theorem dX12_readSum_54 : decode cX12_readSum 54 = .ok (.aload_n 0, 1) := by decide +kernel
theorem dX12_readSum_55 : decode cX12_readSum 55 = .ok (.iload_n 2, 1) := by decide +kernel
theorem dX12_readSum_56 : decode cX12_readSum 56 = .ok (.invokevirtual 272, 3) := by decide +kernel
theorem dX12_readSum_59 : decode cX12_readSum 59 = .ok (.goto (-54), 3) := by decide +kernel
theorem dX12_readSum_62 : decode cX12_readSum 62 = .ok (.return_, 1) := by decide +kernel
def wX12_readSum_44 (re : Int32 → km_S → (km_S → Prop) → Prop) (k5 : Int32 → km_S → Prop) (Q : km_S → Prop) (l1 : Int32) (s0 : Int32) (μ : km_S) : Prop := wX12_step μ fun μ1 => wX12_readTerm re l1 μ1 fun μ2 => wX12_emit s0 μ2 fun μ3 => k5 l1 μ3
def wX12_readSum_30 (re : Int32 → km_S → (km_S → Prop) → Prop) (k5 : Int32 → km_S → Prop) (Q : km_S → Prop) (l1 : Int32) (μ : km_S) : Prop := wX12_isSign 43 μ fun r5 μ4 => ((r5 = 0 → wX12_readSum_44 re k5 Q l1 2 μ4) ∧
  (¬ (r5 = 0) → wX12_readSum_44 re k5 Q l1 1 μ4))
def wX12_readSum_5 (re : Int32 → km_S → (km_S → Prop) → Prop) (Q : km_S → Prop) : Nat → Int32 → km_S → Prop
  | 0, _, _ => False
  | n + 1, l1, μ => ((¬ (km_i μ 66) = 0 → Q μ) ∧
    ((km_i μ 66) = 0 → wX12_isSign 43 μ fun r9 μ8 => ((¬ r9 = 0 → wX12_readSum_30 re (wX12_readSum_5 re Q n) Q l1 μ8) ∧
      (r9 = 0 → wX12_isSign 45 μ8 fun r12 μ11 => ((r12 = 0 → Q μ11) ∧
        (¬ (r12 = 0) → wX12_readSum_30 re (wX12_readSum_5 re Q n) Q l1 μ11))))))
def wX12_readSum (re : Int32 → km_S → (km_S → Prop) → Prop) (l1 : Int32) (μ : km_S) (Q : km_S → Prop) : Prop := wX12_readTerm re l1 μ fun μ14 => ∃ j, wX12_readSum_5 re Q j l1 μ14
set_option maxRecDepth 100000 in
set_option maxHeartbeats 4000000 in
theorem tX12_readSum_44 (l : Launch) (G : km_G) (re : Int32 → km_S → (km_S → Prop) → Prop) (FR LO : Nat) (hre : ∀ (a : Int32) (μ : km_S) (P : km_S → Prop), re a μ P → km_M l G yX12_readExpression cX12_readExpression 4 none FR LO [.ref (G.1 0), .int a] μ (km_Qv G P)) {p : Program} {e : Env} {s : State} {m : MethodId} {args : Array Value} {below : List Frame} {meth : Method} {c : Code} (F : CallFix p m c cX12_readSum 3 s args kt_ RX12) (hr : meth.sig.returnType = none) (hlocks : meth.locks = false) (Q : km_S → Prop) (k5 : Int32 → km_S → Prop) (hk5 : ∀ (l1 : Int32) (μ : km_S) (H : Heap) (locs : List Loc) (ls : Array Slot), k5 l1 μ → km_X G s H locs μ → lv_has ls 3 [(0, .ref (G.1 0)), (1, .int l1)] → W p l e { frames := FR + 7, cells := 0, slots := 0, locals := LO + 153 } s m args below meth c H locs 0 0 (MQ below (km_Qv G Q) args s 0 0 (km_A G)) (F0 m 5 ls [])) : ∀ (l1 : Int32) (s0 : Int32) (μ : km_S) (H : Heap) (locs : List Loc) (ls : Array Slot), wX12_readSum_44 re k5 Q l1 s0 μ → km_X G s H locs μ → lv_has ls 3 [(0, .ref (G.1 0)), (1, .int l1)] → W p l e { frames := FR + 7, cells := 0, slots := 0, locals := LO + 153 } s m args below meth c H locs 0 0 (MQ below (km_Qv G Q) args s 0 0 (km_A G)) (F0 m 44 ls [.int s0]) := by
  intro l1 s0 μ H locs ls h C hl
  refine lv_istore_n (lv' := [(2, .int s0), (0, .ref (G.1 0)), (1, .int l1)]) F.1 F.2.1 dX12_readSum_44 rfl hl (by decide) rfl (fun ls hl => ?_)
  refine lv_aload_n F.1 F.2.1 dX12_readSum_45 rfl (lv_at hl 1 rfl) ?_
  refine kc_X12_step F C h (by dsimp only; omega) (by dsimp only; omega) hl.1 (by simp [Value.category]) dX12_readSum_46 (fun μ1 H locs h C => ?_)
  refine lv_aload_n F.1 F.2.1 dX12_readSum_49 rfl (lv_at hl 1 rfl) ?_
  refine lv_iload_n F.1 F.2.1 dX12_readSum_50 rfl (lv_at hl 2 rfl) ?_
  refine kc_X12_readTerm F C re FR LO hre h (by dsimp only; omega) (by dsimp only; omega) hl.1 (by simp [Value.category]) dX12_readSum_51 (fun μ2 H locs h C => ?_)
  refine lv_aload_n F.1 F.2.1 dX12_readSum_54 rfl (lv_at hl 1 rfl) ?_
  refine lv_iload_n F.1 F.2.1 dX12_readSum_55 rfl (lv_at hl 0 rfl) ?_
  refine kc_X12_emit F C h (by dsimp only; omega) (by dsimp only; omega) hl.1 (by simp [Value.category]) dX12_readSum_56 (fun μ3 H locs h C => ?_)
  refine lv_goto (tgt := 5) F.1 F.2.1 dX12_readSum_59 (by decide) ?_
  exact hk5 l1 μ3 H locs ls h C (lv_sub hl [1, 2] rfl)
set_option maxRecDepth 100000 in
set_option maxHeartbeats 4000000 in
theorem tX12_readSum_30 (l : Launch) (G : km_G) (re : Int32 → km_S → (km_S → Prop) → Prop) (FR LO : Nat) (hre : ∀ (a : Int32) (μ : km_S) (P : km_S → Prop), re a μ P → km_M l G yX12_readExpression cX12_readExpression 4 none FR LO [.ref (G.1 0), .int a] μ (km_Qv G P)) {p : Program} {e : Env} {s : State} {m : MethodId} {args : Array Value} {below : List Frame} {meth : Method} {c : Code} (F : CallFix p m c cX12_readSum 3 s args kt_ RX12) (hr : meth.sig.returnType = none) (hlocks : meth.locks = false) (Q : km_S → Prop) (k5 : Int32 → km_S → Prop) (hk5 : ∀ (l1 : Int32) (μ : km_S) (H : Heap) (locs : List Loc) (ls : Array Slot), k5 l1 μ → km_X G s H locs μ → lv_has ls 3 [(0, .ref (G.1 0)), (1, .int l1)] → W p l e { frames := FR + 7, cells := 0, slots := 0, locals := LO + 153 } s m args below meth c H locs 0 0 (MQ below (km_Qv G Q) args s 0 0 (km_A G)) (F0 m 5 ls [])) : ∀ (l1 : Int32) (μ : km_S) (H : Heap) (locs : List Loc) (ls : Array Slot), wX12_readSum_30 re k5 Q l1 μ → km_X G s H locs μ → lv_has ls 3 [(0, .ref (G.1 0)), (1, .int l1)] → W p l e { frames := FR + 7, cells := 0, slots := 0, locals := LO + 153 } s m args below meth c H locs 0 0 (MQ below (km_Qv G Q) args s 0 0 (km_A G)) (F0 m 30 ls []) := by
  intro l1 μ H locs ls h C hl
  refine lv_aload_n F.1 F.2.1 dX12_readSum_30 rfl (lv_at hl 0 rfl) ?_
  refine lv_bipush (v := 43) F.1 F.2.1 dX12_readSum_31 (by decide) ?_
  refine kc_X12_isSign F C h (by dsimp only; omega) (by dsimp only; omega) hl.1 (by simp [Value.category]) dX12_readSum_33 (fun r5 μ4 H locs h C => ?_)
  refine lv_if_eq (tgt := 43) F.1 F.2.1 dX12_readSum_36 (by decide) (fun c6 => ?_) (fun c6 => ?_)
  · have h := h.1 c6
    refine lv_iconst (v := 2) F.1 F.2.1 dX12_readSum_43 (by decide) ?_
    exact tX12_readSum_44 l G re FR LO hre F hr hlocks Q k5 hk5 l1 2 μ4 H locs ls h C (lv_sub hl [0, 1] rfl)
  · have h := h.2 c6
    refine lv_iconst (v := 1) F.1 F.2.1 dX12_readSum_39 (by decide) ?_
    refine lv_goto (tgt := 44) F.1 F.2.1 dX12_readSum_40 (by decide) ?_
    exact tX12_readSum_44 l G re FR LO hre F hr hlocks Q k5 hk5 l1 1 μ4 H locs ls h C (lv_sub hl [0, 1] rfl)
set_option maxRecDepth 100000 in
set_option maxHeartbeats 4000000 in
theorem tX12_readSum_5 (l : Launch) (G : km_G) (re : Int32 → km_S → (km_S → Prop) → Prop) (FR LO : Nat) (hre : ∀ (a : Int32) (μ : km_S) (P : km_S → Prop), re a μ P → km_M l G yX12_readExpression cX12_readExpression 4 none FR LO [.ref (G.1 0), .int a] μ (km_Qv G P)) {p : Program} {e : Env} {s : State} {m : MethodId} {args : Array Value} {below : List Frame} {meth : Method} {c : Code} (F : CallFix p m c cX12_readSum 3 s args kt_ RX12) (hr : meth.sig.returnType = none) (hlocks : meth.locks = false) (Q : km_S → Prop) : ∀ (n : Nat) (l1 : Int32) (μ : km_S) (H : Heap) (locs : List Loc) (ls : Array Slot), wX12_readSum_5 re Q n l1 μ → km_X G s H locs μ → lv_has ls 3 [(0, .ref (G.1 0)), (1, .int l1)] → W p l e { frames := FR + 7, cells := 0, slots := 0, locals := LO + 153 } s m args below meth c H locs 0 0 (MQ below (km_Qv G Q) args s 0 0 (km_A G)) (F0 m 5 ls []) := by
  intro n
  induction n with
  | zero => intro l1 μ H locs ls h; exact h.elim
  | succ n ih =>
    intro l1 μ H locs ls h C hl
    refine lv_aload_n F.1 F.2.1 dX12_readSum_5 rfl (lv_at hl 0 rfl) ?_
    refine kg_bad F C dX12_readSum_6 ?_
    refine lv_if_ne (tgt := 62) F.1 F.2.1 dX12_readSum_9 (by decide) (fun c7 => ?_) (fun c7 => ?_)
    · have h := h.1 c7
      exact km_vret F C hr hlocks h dX12_readSum_62
    · have h := h.2 c7
      refine lv_aload_n F.1 F.2.1 dX12_readSum_12 rfl (lv_at hl 0 rfl) ?_
      refine lv_bipush (v := 43) F.1 F.2.1 dX12_readSum_13 (by decide) ?_
      refine kc_X12_isSign F C h (by dsimp only; omega) (by dsimp only; omega) hl.1 (by simp [Value.category]) dX12_readSum_15 (fun r9 μ8 H locs h C => ?_)
      refine lv_if_ne (tgt := 30) F.1 F.2.1 dX12_readSum_18 (by decide) (fun c10 => ?_) (fun c10 => ?_)
      · have h := h.1 c10
        exact tX12_readSum_30 l G re FR LO hre F hr hlocks Q (wX12_readSum_5 re Q n) (fun l1 μ9 H locs ls h C hl => ih l1 μ9 H locs ls h C hl) l1 μ8 H locs ls h C (lv_sub hl [0, 1] rfl)
      · have h := h.2 c10
        refine lv_aload_n F.1 F.2.1 dX12_readSum_21 rfl (lv_at hl 0 rfl) ?_
        refine lv_bipush (v := 45) F.1 F.2.1 dX12_readSum_22 (by decide) ?_
        refine kc_X12_isSign F C h (by dsimp only; omega) (by dsimp only; omega) hl.1 (by simp [Value.category]) dX12_readSum_24 (fun r12 μ11 H locs h C => ?_)
        refine lv_if_eq (tgt := 62) F.1 F.2.1 dX12_readSum_27 (by decide) (fun c13 => ?_) (fun c13 => ?_)
        · have h := h.1 c13
          exact km_vret F C hr hlocks h dX12_readSum_62
        · have h := h.2 c13
          exact tX12_readSum_30 l G re FR LO hre F hr hlocks Q (wX12_readSum_5 re Q n) (fun l1 μ9 H locs ls h C hl => ih l1 μ9 H locs ls h C hl) l1 μ11 H locs ls h C (lv_sub hl [0, 1] rfl)
set_option maxRecDepth 100000 in
set_option maxHeartbeats 4000000 in
theorem hc_X12_readSum (l : Launch) (G : km_G) (re : Int32 → km_S → (km_S → Prop) → Prop) (FR LO : Nat) (hre : ∀ (a : Int32) (μ : km_S) (P : km_S → Prop), re a μ P → km_M l G yX12_readExpression cX12_readExpression 4 none FR LO [.ref (G.1 0), .int a] μ (km_Qv G P)) (l1 : Int32) (μ : km_S) (Q : km_S → Prop) (h : wX12_readSum re l1 μ Q) : km_M l G yX12_readSum cX12_readSum 3 none (FR + 7) (LO + 153) [.ref (G.1 0), .int l1] μ (km_Qv G Q) := by
  refine km_enter (by decide) rfl (Nat.le_of_ble_eq_true rfl) ?_
  intro p e s m below meth c ls F hr hlocks C hl
  have hl : lv_has ls 3 [(0, .ref (G.1 0)), (1, .int l1)] := hl
  obtain ⟨H, eH⟩ : ∃ z9, z9 = s.heap := ⟨_, rfl⟩
  obtain ⟨locs, eL⟩ : ∃ z9 : List Loc, z9 = [] := ⟨_, rfl⟩
  rw [← eH, ← eL] at C
  rw [← eH, ← eL]
  refine lv_aload_n F.1 F.2.1 dX12_readSum_0 rfl (lv_at hl 0 rfl) ?_
  refine lv_iload_n F.1 F.2.1 dX12_readSum_1 rfl (lv_at hl 1 rfl) ?_
  refine kc_X12_readTerm F C re FR LO hre h (by dsimp only; omega) (by dsimp only; omega) hl.1 (by simp [Value.category]) dX12_readSum_2 (fun μ14 H locs h C => ?_)
  obtain ⟨n15, h⟩ := h
  exact tX12_readSum_5 l G re FR LO hre F hr hlocks Q n15 l1 μ14 H locs ls h C (lv_sub hl [0, 1] rfl)
section
variable {p : Program} {l : Launch} {e : Env} {R : Room} {s : State} {m : MethodId} {args : Array Value} {below : List Frame} {meth : Method} {c : Code} {H : Heap} {locs : List Loc} {Q : State → Prop}
variable {cc : ByteArray} {pc nL : Nat} {ls : Array Slot} {rest : List Value} {G : km_G} {μ : km_S}
theorem kc_X12_readSum (F : CallFix p m c cc nL s args kt_ RX12) (C : km_X G s H locs μ) {P : km_S → Prop} (re : Int32 → km_S → (km_S → Prop) → Prop) (FR LO : Nat) (hre : ∀ (a : Int32) (μ : km_S) (P : km_S → Prop), re a μ P → km_M l G yX12_readExpression cX12_readExpression 4 none FR LO [.ref (G.1 0), .int a] μ (km_Qv G P)) {l1 : Int32} (h : wX12_readSum re l1 μ P) (h1 : (FR + 7) + 1 ≤ R.frames) (h2 : 8 + (3 + 11) + (LO + 153) ≤ R.locals) (hsz : ls.size = nL) (hW : (rest.map fun v => v.category).sum ≤ 8) (hdg : decode cc pc = .ok (.invokevirtual 277, 3)) (kk : ∀ (μ' : km_S) (H1 : Heap) (locs1 : List Loc), P μ' → km_X G s H1 locs1 μ' → W p l e R s m args below meth c H1 locs1 0 0 Q (F0 m (pc + 3) ls rest)) : W p l e R s m args below meth c H locs 0 0 Q (F0 m pc ls (.int l1 :: .ref (G.1 0) :: rest)) :=
  km_cVv (n := 1) (As := [.int l1]) F C (hc_X12_readSum l G re FR LO hre l1 μ P h) (kt_V tw_268 tw_269 tw_270 tw_151 tw_271) (by decide +kernel) ⟨h1, h2⟩ rfl hsz hW hdg kk
end
theorem dX12_readTest_0 : decode cX12_readTest 0 = .ok (.aload_n 0, 1) := by decide +kernel
theorem dX12_readTest_1 : decode cX12_readTest 1 = .ok (.ldc_w 275, 3) := by decide +kernel
theorem dX12_readTest_4 : decode cX12_readTest 4 = .ok (.invokevirtual 249, 3) := by decide +kernel
theorem dX12_readTest_7 : decode cX12_readTest 7 = .ok (.istore_n 2, 1) := by decide +kernel
theorem dX12_readTest_8 : decode cX12_readTest 8 = .ok (.iload_n 2, 1) := by decide +kernel
theorem dX12_readTest_9 : decode cX12_readTest 9 = .ok (.ifCond .eq 7, 3) := by decide +kernel
theorem dX12_readTest_12 : decode cX12_readTest 12 = .ok (.aload_n 0, 1) := by decide +kernel
theorem dX12_readTest_13 : decode cX12_readTest 13 = .ok (.invokevirtual 244, 3) := by decide +kernel
theorem dX12_readTest_16 : decode cX12_readTest 16 = .ok (.aload_n 0, 1) := by decide +kernel
theorem dX12_readTest_17 : decode cX12_readTest 17 = .ok (.iload_n 1, 1) := by decide +kernel
theorem dX12_readTest_18 : decode cX12_readTest 18 = .ok (.invokevirtual 277, 3) := by decide +kernel
theorem dX12_readTest_21 : decode cX12_readTest 21 = .ok (.aload_n 0, 1) := by decide +kernel
theorem dX12_readTest_22 : decode cX12_readTest 22 = .ok (.getfield 232, 3) := by decide +kernel
theorem dX12_readTest_25 : decode cX12_readTest 25 = .ok (.ifCond .ne 51, 3) := by decide +kernel
theorem dX12_readTest_28 : decode cX12_readTest 28 = .ok (.aload_n 0, 1) := by decide +kernel
theorem dX12_readTest_29 : decode cX12_readTest 29 = .ok (.bipush 60, 2) := by decide +kernel
theorem dX12_readTest_31 : decode cX12_readTest 31 = .ok (.invokevirtual 262, 3) := by decide +kernel
theorem dX12_readTest_34 : decode cX12_readTest 34 = .ok (.ifCond .ne 12, 3) := by decide +kernel
theorem dX12_readTest_37 : decode cX12_readTest 37 = .ok (.aload_n 0, 1) := by decide +kernel
theorem dX12_readTest_38 : decode cX12_readTest 38 = .ok (.bipush 61, 2) := by decide +kernel
theorem dX12_readTest_40 : decode cX12_readTest 40 = .ok (.invokevirtual 262, 3) := by decide +kernel
theorem dX12_readTest_43 : decode cX12_readTest 43 = .ok (.ifCond .eq 33, 3) := by decide +kernel
theorem dX12_readTest_46 : decode cX12_readTest 46 = .ok (.aload_n 0, 1) := by decide +kernel
theorem dX12_readTest_47 : decode cX12_readTest 47 = .ok (.bipush 60, 2) := by decide +kernel
theorem dX12_readTest_49 : decode cX12_readTest 49 = .ok (.invokevirtual 262, 3) := by decide +kernel
theorem dX12_readTest_52 : decode cX12_readTest 52 = .ok (.ifCond .eq 7, 3) := by decide +kernel
theorem dX12_readTest_55 : decode cX12_readTest 55 = .ok (.iconst 5, 1) := by decide +kernel
theorem dX12_readTest_56 : decode cX12_readTest 56 = .ok (.goto 5, 3) := by decide +kernel
theorem dX12_readTest_59 : decode cX12_readTest 59 = .ok (.bipush 6, 2) := by decide +kernel
theorem dX12_readTest_61 : decode cX12_readTest 61 = .ok (.istore_n 3, 1) := by decide +kernel
theorem dX12_readTest_62 : decode cX12_readTest 62 = .ok (.aload_n 0, 1) := by decide +kernel
theorem dX12_readTest_63 : decode cX12_readTest 63 = .ok (.invokevirtual 244, 3) := by decide +kernel
theorem dX12_readTest_66 : decode cX12_readTest 66 = .ok (.aload_n 0, 1) := by decide +kernel
theorem dX12_readTest_67 : decode cX12_readTest 67 = .ok (.iload_n 1, 1) := by decide +kernel
theorem dX12_readTest_68 : decode cX12_readTest 68 = .ok (.invokevirtual 277, 3) := by decide +kernel
theorem dX12_readTest_71 : decode cX12_readTest 71 = .ok (.aload_n 0, 1) := by decide +kernel
theorem dX12_readTest_72 : decode cX12_readTest 72 = .ok (.iload_n 3, 1) := by decide +kernel
theorem dX12_readTest_73 : decode cX12_readTest 73 = .ok (.invokevirtual 272, 3) := by decide +kernel
theorem dX12_readTest_76 : decode cX12_readTest 76 = .ok (.iload_n 2, 1) := by decide +kernel
theorem dX12_readTest_77 : decode cX12_readTest 77 = .ok (.ifCond .eq 9, 3) := by decide +kernel
theorem dX12_readTest_80 : decode cX12_readTest 80 = .ok (.aload_n 0, 1) := by decide +kernel
theorem dX12_readTest_81 : decode cX12_readTest 81 = .ok (.bipush 9, 2) := by decide +kernel
theorem dX12_readTest_83 : decode cX12_readTest 83 = .ok (.invokevirtual 272, 3) := by decide +kernel
theorem dX12_readTest_86 : decode cX12_readTest 86 = .ok (.return_, 1) := by decide +kernel
def wX12_readTest_76 (re : Int32 → km_S → (km_S → Prop) → Prop) (Q : km_S → Prop) (l2 : Int32) (μ : km_S) : Prop := ((l2 = 0 → Q μ) ∧
  (¬ (l2 = 0) → wX12_emit 9 μ fun μ2 => Q μ2))
def wX12_readTest_61 (re : Int32 → km_S → (km_S → Prop) → Prop) (k76 : Int32 → km_S → Prop) (Q : km_S → Prop) (l1 : Int32) (l2 : Int32) (s0 : Int32) (μ : km_S) : Prop := wX12_step μ fun μ3 => wX12_readSum re l1 μ3 fun μ4 => wX12_emit s0 μ4 fun μ5 => k76 l2 μ5
def wX12_readTest_46 (re : Int32 → km_S → (km_S → Prop) → Prop) (k76 : Int32 → km_S → Prop) (Q : km_S → Prop) (l1 : Int32) (l2 : Int32) (μ : km_S) : Prop := wX12_isSign 60 μ fun r7 μ6 => ((r7 = 0 → wX12_readTest_61 re k76 Q l1 l2 6 μ6) ∧
  (¬ (r7 = 0) → wX12_readTest_61 re k76 Q l1 l2 5 μ6))
def wX12_readTest_16 (re : Int32 → km_S → (km_S → Prop) → Prop) (Q : km_S → Prop) (l1 : Int32) (l2 : Int32) (μ : km_S) : Prop := wX12_readSum re l1 μ fun μ9 => ((¬ (km_i μ9 66) = 0 → wX12_readTest_76 re Q l2 μ9) ∧
  ((km_i μ9 66) = 0 → wX12_isSign 60 μ9 fun r12 μ11 => ((¬ r12 = 0 → wX12_readTest_46 re (wX12_readTest_76 re Q) Q l1 l2 μ11) ∧
    (r12 = 0 → wX12_isSign 61 μ11 fun r15 μ14 => ((r15 = 0 → wX12_readTest_76 re Q l2 μ14) ∧
      (¬ (r15 = 0) → wX12_readTest_46 re (wX12_readTest_76 re Q) Q l1 l2 μ14))))))
def wX12_readTest (re : Int32 → km_S → (km_S → Prop) → Prop) (l1 : Int32) (μ : km_S) (Q : km_S → Prop) : Prop := wX12_isWord 11 μ fun r18 μ17 => ((r18 = 0 → wX12_readTest_16 re Q l1 r18 μ17) ∧
  (¬ (r18 = 0) → wX12_step μ17 fun μ20 => wX12_readTest_16 re Q l1 r18 μ20))
set_option maxRecDepth 100000 in
set_option maxHeartbeats 4000000 in
theorem tX12_readTest_76 (l : Launch) (G : km_G) (re : Int32 → km_S → (km_S → Prop) → Prop) (FR LO : Nat) (hre : ∀ (a : Int32) (μ : km_S) (P : km_S → Prop), re a μ P → km_M l G yX12_readExpression cX12_readExpression 4 none FR LO [.ref (G.1 0), .int a] μ (km_Qv G P)) {p : Program} {e : Env} {s : State} {m : MethodId} {args : Array Value} {below : List Frame} {meth : Method} {c : Code} (F : CallFix p m c cX12_readTest 4 s args kt_ RX12) (hr : meth.sig.returnType = none) (hlocks : meth.locks = false) (Q : km_S → Prop) : ∀ (l2 : Int32) (μ : km_S) (H : Heap) (locs : List Loc) (ls : Array Slot), wX12_readTest_76 re Q l2 μ → km_X G s H locs μ → lv_has ls 4 [(0, .ref (G.1 0)), (2, .int l2)] → W p l e { frames := FR + 8, cells := 0, slots := 0, locals := LO + 175 } s m args below meth c H locs 0 0 (MQ below (km_Qv G Q) args s 0 0 (km_A G)) (F0 m 76 ls []) := by
  intro l2 μ H locs ls h C hl
  refine lv_iload_n F.1 F.2.1 dX12_readTest_76 rfl (lv_at hl 1 rfl) ?_
  refine lv_if_eq (tgt := 86) F.1 F.2.1 dX12_readTest_77 (by decide) (fun c1 => ?_) (fun c1 => ?_)
  · have h := h.1 c1
    exact km_vret F C hr hlocks h dX12_readTest_86
  · have h := h.2 c1
    refine lv_aload_n F.1 F.2.1 dX12_readTest_80 rfl (lv_at hl 0 rfl) ?_
    refine lv_bipush (v := 9) F.1 F.2.1 dX12_readTest_81 (by decide) ?_
    refine kc_X12_emit F C h (by dsimp only; omega) (by dsimp only; omega) hl.1 (by simp [Value.category]) dX12_readTest_83 (fun μ2 H locs h C => ?_)
    exact km_vret F C hr hlocks h dX12_readTest_86
set_option maxRecDepth 100000 in
set_option maxHeartbeats 4000000 in
theorem tX12_readTest_61 (l : Launch) (G : km_G) (re : Int32 → km_S → (km_S → Prop) → Prop) (FR LO : Nat) (hre : ∀ (a : Int32) (μ : km_S) (P : km_S → Prop), re a μ P → km_M l G yX12_readExpression cX12_readExpression 4 none FR LO [.ref (G.1 0), .int a] μ (km_Qv G P)) {p : Program} {e : Env} {s : State} {m : MethodId} {args : Array Value} {below : List Frame} {meth : Method} {c : Code} (F : CallFix p m c cX12_readTest 4 s args kt_ RX12) (hr : meth.sig.returnType = none) (hlocks : meth.locks = false) (Q : km_S → Prop) (k76 : Int32 → km_S → Prop) (hk76 : ∀ (l2 : Int32) (μ : km_S) (H : Heap) (locs : List Loc) (ls : Array Slot), k76 l2 μ → km_X G s H locs μ → lv_has ls 4 [(0, .ref (G.1 0)), (2, .int l2)] → W p l e { frames := FR + 8, cells := 0, slots := 0, locals := LO + 175 } s m args below meth c H locs 0 0 (MQ below (km_Qv G Q) args s 0 0 (km_A G)) (F0 m 76 ls [])) : ∀ (l1 : Int32) (l2 : Int32) (s0 : Int32) (μ : km_S) (H : Heap) (locs : List Loc) (ls : Array Slot), wX12_readTest_61 re k76 Q l1 l2 s0 μ → km_X G s H locs μ → lv_has ls 4 [(0, .ref (G.1 0)), (1, .int l1), (2, .int l2)] → W p l e { frames := FR + 8, cells := 0, slots := 0, locals := LO + 175 } s m args below meth c H locs 0 0 (MQ below (km_Qv G Q) args s 0 0 (km_A G)) (F0 m 61 ls [.int s0]) := by
  intro l1 l2 s0 μ H locs ls h C hl
  refine lv_istore_n (lv' := [(3, .int s0), (0, .ref (G.1 0)), (1, .int l1), (2, .int l2)]) F.1 F.2.1 dX12_readTest_61 rfl hl (by decide) rfl (fun ls hl => ?_)
  refine lv_aload_n F.1 F.2.1 dX12_readTest_62 rfl (lv_at hl 1 rfl) ?_
  refine kc_X12_step F C h (by dsimp only; omega) (by dsimp only; omega) hl.1 (by simp [Value.category]) dX12_readTest_63 (fun μ3 H locs h C => ?_)
  refine lv_aload_n F.1 F.2.1 dX12_readTest_66 rfl (lv_at hl 1 rfl) ?_
  refine lv_iload_n F.1 F.2.1 dX12_readTest_67 rfl (lv_at hl 2 rfl) ?_
  refine kc_X12_readSum F C re FR LO hre h (by dsimp only; omega) (by dsimp only; omega) hl.1 (by simp [Value.category]) dX12_readTest_68 (fun μ4 H locs h C => ?_)
  refine lv_aload_n F.1 F.2.1 dX12_readTest_71 rfl (lv_at hl 1 rfl) ?_
  refine lv_iload_n F.1 F.2.1 dX12_readTest_72 rfl (lv_at hl 0 rfl) ?_
  refine kc_X12_emit F C h (by dsimp only; omega) (by dsimp only; omega) hl.1 (by simp [Value.category]) dX12_readTest_73 (fun μ5 H locs h C => ?_)
  exact hk76 l2 μ5 H locs ls h C (lv_sub hl [1, 3] rfl)
set_option maxRecDepth 100000 in
set_option maxHeartbeats 4000000 in
theorem tX12_readTest_46 (l : Launch) (G : km_G) (re : Int32 → km_S → (km_S → Prop) → Prop) (FR LO : Nat) (hre : ∀ (a : Int32) (μ : km_S) (P : km_S → Prop), re a μ P → km_M l G yX12_readExpression cX12_readExpression 4 none FR LO [.ref (G.1 0), .int a] μ (km_Qv G P)) {p : Program} {e : Env} {s : State} {m : MethodId} {args : Array Value} {below : List Frame} {meth : Method} {c : Code} (F : CallFix p m c cX12_readTest 4 s args kt_ RX12) (hr : meth.sig.returnType = none) (hlocks : meth.locks = false) (Q : km_S → Prop) (k76 : Int32 → km_S → Prop) (hk76 : ∀ (l2 : Int32) (μ : km_S) (H : Heap) (locs : List Loc) (ls : Array Slot), k76 l2 μ → km_X G s H locs μ → lv_has ls 4 [(0, .ref (G.1 0)), (2, .int l2)] → W p l e { frames := FR + 8, cells := 0, slots := 0, locals := LO + 175 } s m args below meth c H locs 0 0 (MQ below (km_Qv G Q) args s 0 0 (km_A G)) (F0 m 76 ls [])) : ∀ (l1 : Int32) (l2 : Int32) (μ : km_S) (H : Heap) (locs : List Loc) (ls : Array Slot), wX12_readTest_46 re k76 Q l1 l2 μ → km_X G s H locs μ → lv_has ls 4 [(0, .ref (G.1 0)), (1, .int l1), (2, .int l2)] → W p l e { frames := FR + 8, cells := 0, slots := 0, locals := LO + 175 } s m args below meth c H locs 0 0 (MQ below (km_Qv G Q) args s 0 0 (km_A G)) (F0 m 46 ls []) := by
  intro l1 l2 μ H locs ls h C hl
  refine lv_aload_n F.1 F.2.1 dX12_readTest_46 rfl (lv_at hl 0 rfl) ?_
  refine lv_bipush (v := 60) F.1 F.2.1 dX12_readTest_47 (by decide) ?_
  refine kc_X12_isSign F C h (by dsimp only; omega) (by dsimp only; omega) hl.1 (by simp [Value.category]) dX12_readTest_49 (fun r7 μ6 H locs h C => ?_)
  refine lv_if_eq (tgt := 59) F.1 F.2.1 dX12_readTest_52 (by decide) (fun c8 => ?_) (fun c8 => ?_)
  · have h := h.1 c8
    refine lv_bipush (v := 6) F.1 F.2.1 dX12_readTest_59 (by decide) ?_
    exact tX12_readTest_61 l G re FR LO hre F hr hlocks Q k76 hk76 l1 l2 6 μ6 H locs ls h C (lv_sub hl [0, 1, 2] rfl)
  · have h := h.2 c8
    refine lv_iconst (v := 5) F.1 F.2.1 dX12_readTest_55 (by decide) ?_
    refine lv_goto (tgt := 61) F.1 F.2.1 dX12_readTest_56 (by decide) ?_
    exact tX12_readTest_61 l G re FR LO hre F hr hlocks Q k76 hk76 l1 l2 5 μ6 H locs ls h C (lv_sub hl [0, 1, 2] rfl)
set_option maxRecDepth 100000 in
set_option maxHeartbeats 4000000 in
theorem tX12_readTest_16 (l : Launch) (G : km_G) (re : Int32 → km_S → (km_S → Prop) → Prop) (FR LO : Nat) (hre : ∀ (a : Int32) (μ : km_S) (P : km_S → Prop), re a μ P → km_M l G yX12_readExpression cX12_readExpression 4 none FR LO [.ref (G.1 0), .int a] μ (km_Qv G P)) {p : Program} {e : Env} {s : State} {m : MethodId} {args : Array Value} {below : List Frame} {meth : Method} {c : Code} (F : CallFix p m c cX12_readTest 4 s args kt_ RX12) (hr : meth.sig.returnType = none) (hlocks : meth.locks = false) (Q : km_S → Prop) : ∀ (l1 : Int32) (l2 : Int32) (μ : km_S) (H : Heap) (locs : List Loc) (ls : Array Slot), wX12_readTest_16 re Q l1 l2 μ → km_X G s H locs μ → lv_has ls 4 [(0, .ref (G.1 0)), (1, .int l1), (2, .int l2)] → W p l e { frames := FR + 8, cells := 0, slots := 0, locals := LO + 175 } s m args below meth c H locs 0 0 (MQ below (km_Qv G Q) args s 0 0 (km_A G)) (F0 m 16 ls []) := by
  intro l1 l2 μ H locs ls h C hl
  refine lv_aload_n F.1 F.2.1 dX12_readTest_16 rfl (lv_at hl 0 rfl) ?_
  refine lv_iload_n F.1 F.2.1 dX12_readTest_17 rfl (lv_at hl 1 rfl) ?_
  refine kc_X12_readSum F C re FR LO hre h (by dsimp only; omega) (by dsimp only; omega) hl.1 (by simp [Value.category]) dX12_readTest_18 (fun μ9 H locs h C => ?_)
  refine lv_aload_n F.1 F.2.1 dX12_readTest_21 rfl (lv_at hl 0 rfl) ?_
  refine kg_bad F C dX12_readTest_22 ?_
  refine lv_if_ne (tgt := 76) F.1 F.2.1 dX12_readTest_25 (by decide) (fun c10 => ?_) (fun c10 => ?_)
  · have h := h.1 c10
    exact tX12_readTest_76 l G re FR LO hre F hr hlocks Q l2 μ9 H locs ls h C (lv_sub hl [0, 2] rfl)
  · have h := h.2 c10
    refine lv_aload_n F.1 F.2.1 dX12_readTest_28 rfl (lv_at hl 0 rfl) ?_
    refine lv_bipush (v := 60) F.1 F.2.1 dX12_readTest_29 (by decide) ?_
    refine kc_X12_isSign F C h (by dsimp only; omega) (by dsimp only; omega) hl.1 (by simp [Value.category]) dX12_readTest_31 (fun r12 μ11 H locs h C => ?_)
    refine lv_if_ne (tgt := 46) F.1 F.2.1 dX12_readTest_34 (by decide) (fun c13 => ?_) (fun c13 => ?_)
    · have h := h.1 c13
      exact tX12_readTest_46 l G re FR LO hre F hr hlocks Q (wX12_readTest_76 re Q) (tX12_readTest_76 l G re FR LO hre F hr hlocks Q) l1 l2 μ11 H locs ls h C (lv_sub hl [0, 1, 2] rfl)
    · have h := h.2 c13
      refine lv_aload_n F.1 F.2.1 dX12_readTest_37 rfl (lv_at hl 0 rfl) ?_
      refine lv_bipush (v := 61) F.1 F.2.1 dX12_readTest_38 (by decide) ?_
      refine kc_X12_isSign F C h (by dsimp only; omega) (by dsimp only; omega) hl.1 (by simp [Value.category]) dX12_readTest_40 (fun r15 μ14 H locs h C => ?_)
      refine lv_if_eq (tgt := 76) F.1 F.2.1 dX12_readTest_43 (by decide) (fun c16 => ?_) (fun c16 => ?_)
      · have h := h.1 c16
        exact tX12_readTest_76 l G re FR LO hre F hr hlocks Q l2 μ14 H locs ls h C (lv_sub hl [0, 2] rfl)
      · have h := h.2 c16
        exact tX12_readTest_46 l G re FR LO hre F hr hlocks Q (wX12_readTest_76 re Q) (tX12_readTest_76 l G re FR LO hre F hr hlocks Q) l1 l2 μ14 H locs ls h C (lv_sub hl [0, 1, 2] rfl)
set_option maxRecDepth 100000 in
set_option maxHeartbeats 4000000 in
theorem hc_X12_readTest (l : Launch) (G : km_G) (re : Int32 → km_S → (km_S → Prop) → Prop) (FR LO : Nat) (hre : ∀ (a : Int32) (μ : km_S) (P : km_S → Prop), re a μ P → km_M l G yX12_readExpression cX12_readExpression 4 none FR LO [.ref (G.1 0), .int a] μ (km_Qv G P)) (l1 : Int32) (μ : km_S) (Q : km_S → Prop) (h : wX12_readTest re l1 μ Q) : km_M l G yX12_readTest cX12_readTest 4 none (FR + 8) (LO + 175) [.ref (G.1 0), .int l1] μ (km_Qv G Q) := by
  refine km_enter (by decide) rfl (Nat.le_of_ble_eq_true rfl) ?_
  intro p e s m below meth c ls F hr hlocks C hl
  have hl : lv_has ls 4 [(0, .ref (G.1 0)), (1, .int l1)] := hl
  obtain ⟨H, eH⟩ : ∃ z9, z9 = s.heap := ⟨_, rfl⟩
  obtain ⟨locs, eL⟩ : ∃ z9 : List Loc, z9 = [] := ⟨_, rfl⟩
  rw [← eH, ← eL] at C
  rw [← eH, ← eL]
  refine lv_aload_n F.1 F.2.1 dX12_readTest_0 rfl (lv_at hl 0 rfl) ?_
  refine km_ldcSW F.1 F.2.1 F.2.2.2.1 C.2.2.2.2.2.2.2.2.2 dX12_readTest_1 ?_
  refine kc_X12_isWord F C h (by dsimp only; omega) (by dsimp only; omega) hl.1 (by simp [Value.category]) dX12_readTest_4 (fun r18 μ17 H locs h C => ?_)
  refine lv_istore_n (lv' := [(2, .int r18), (0, .ref (G.1 0)), (1, .int l1)]) F.1 F.2.1 dX12_readTest_7 rfl hl (by decide) rfl (fun ls hl => ?_)
  refine lv_iload_n F.1 F.2.1 dX12_readTest_8 rfl (lv_at hl 0 rfl) ?_
  refine lv_if_eq (tgt := 16) F.1 F.2.1 dX12_readTest_9 (by decide) (fun c19 => ?_) (fun c19 => ?_)
  · have h := h.1 c19
    exact tX12_readTest_16 l G re FR LO hre F hr hlocks Q l1 r18 μ17 H locs ls h C (lv_sub hl [1, 2, 0] rfl)
  · have h := h.2 c19
    refine lv_aload_n F.1 F.2.1 dX12_readTest_12 rfl (lv_at hl 1 rfl) ?_
    refine kc_X12_step F C h (by dsimp only; omega) (by dsimp only; omega) hl.1 (by simp [Value.category]) dX12_readTest_13 (fun μ20 H locs h C => ?_)
    exact tX12_readTest_16 l G re FR LO hre F hr hlocks Q l1 r18 μ20 H locs ls h C (lv_sub hl [1, 2, 0] rfl)
section
variable {p : Program} {l : Launch} {e : Env} {R : Room} {s : State} {m : MethodId} {args : Array Value} {below : List Frame} {meth : Method} {c : Code} {H : Heap} {locs : List Loc} {Q : State → Prop}
variable {cc : ByteArray} {pc nL : Nat} {ls : Array Slot} {rest : List Value} {G : km_G} {μ : km_S}
theorem kc_X12_readTest (F : CallFix p m c cc nL s args kt_ RX12) (C : km_X G s H locs μ) {P : km_S → Prop} (re : Int32 → km_S → (km_S → Prop) → Prop) (FR LO : Nat) (hre : ∀ (a : Int32) (μ : km_S) (P : km_S → Prop), re a μ P → km_M l G yX12_readExpression cX12_readExpression 4 none FR LO [.ref (G.1 0), .int a] μ (km_Qv G P)) {l1 : Int32} (h : wX12_readTest re l1 μ P) (h1 : (FR + 8) + 1 ≤ R.frames) (h2 : 8 + (4 + 11) + (LO + 175) ≤ R.locals) (hsz : ls.size = nL) (hW : (rest.map fun v => v.category).sum ≤ 8) (hdg : decode cc pc = .ok (.invokevirtual 265, 3)) (kk : ∀ (μ' : km_S) (H1 : Heap) (locs1 : List Loc), P μ' → km_X G s H1 locs1 μ' → W p l e R s m args below meth c H1 locs1 0 0 Q (F0 m (pc + 3) ls rest)) : W p l e R s m args below meth c H locs 0 0 Q (F0 m pc ls (.int l1 :: .ref (G.1 0) :: rest)) :=
  km_cVv (n := 1) (As := [.int l1]) F C (hc_X12_readTest l G re FR LO hre l1 μ P h) (kt_V tw_272 tw_273 tw_274 tw_151 tw_275) (by decide +kernel) ⟨h1, h2⟩ rfl hsz hW hdg kk
end
theorem dX12_readExpression_0 : decode cX12_readExpression 0 = .ok (.aload_n 0, 1) := by decide +kernel
theorem dX12_readExpression_1 : decode cX12_readExpression 1 = .ok (.getfield 214, 3) := by decide +kernel
theorem dX12_readExpression_4 : decode cX12_readExpression 4 = .ok (.iconst 1, 1) := by decide +kernel
theorem dX12_readExpression_5 : decode cX12_readExpression 5 = .ok (.if_icmp .eq 20, 3) := by decide +kernel
theorem dX12_readExpression_8 : decode cX12_readExpression 8 = .ok (.aload_n 0, 1) := by decide +kernel
theorem dX12_readExpression_9 : decode cX12_readExpression 9 = .ok (.getfield 214, 3) := by decide +kernel
theorem dX12_readExpression_12 : decode cX12_readExpression 12 = .ok (.iconst 2, 1) := by decide +kernel
theorem dX12_readExpression_13 : decode cX12_readExpression 13 = .ok (.if_icmp .eq 12, 3) := by decide +kernel
theorem dX12_readExpression_16 : decode cX12_readExpression 16 = .ok (.aload_n 0, 1) := by decide +kernel
theorem dX12_readExpression_17 : decode cX12_readExpression 17 = .ok (.bipush 40, 2) := by decide +kernel
theorem dX12_readExpression_19 : decode cX12_readExpression 19 = .ok (.invokevirtual 262, 3) := by decide +kernel
theorem dX12_readExpression_22 : decode cX12_readExpression 22 = .ok (.ifCond .eq 7, 3) := by decide +kernel
theorem dX12_readExpression_25 : decode cX12_readExpression 25 = .ok (.iconst 1, 1) := by decide +kernel
theorem dX12_readExpression_26 : decode cX12_readExpression 26 = .ok (.goto 4, 3) := by decide +kernel
theorem dX12_readExpression_29 : decode cX12_readExpression 29 = .ok (.iconst 0, 1) := by decide +kernel
theorem dX12_readExpression_30 : decode cX12_readExpression 30 = .ok (.istore_n 2, 1) := by decide +kernel
theorem dX12_readExpression_31 : decode cX12_readExpression 31 = .ok (.iload_n 2, 1) := by decide +kernel
theorem dX12_readExpression_32 : decode cX12_readExpression 32 = .ok (.ifCond .ne 11, 3) := by decide +kernel
theorem dX12_readExpression_35 : decode cX12_readExpression 35 = .ok (.aload_n 0, 1) := by decide +kernel
theorem dX12_readExpression_36 : decode cX12_readExpression 36 = .ok (.iconst 1, 1) := by decide +kernel
theorem dX12_readExpression_37 : decode cX12_readExpression 37 = .ok (.invokevirtual 255, 3) := by decide +kernel
theorem dX12_readExpression_40 : decode cX12_readExpression 40 = .ok (.goto 14, 3) := by decide +kernel
theorem dX12_readExpression_43 : decode cX12_readExpression 43 = .ok (.iload_n 1, 1) := by decide +kernel
theorem dX12_readExpression_44 : decode cX12_readExpression 44 = .ok (.bipush 8, 2) := by decide +kernel
theorem dX12_readExpression_46 : decode cX12_readExpression 46 = .ok (.if_icmp .ne 8, 3) := by decide +kernel
theorem dX12_readExpression_49 : decode cX12_readExpression 49 = .ok (.aload_n 0, 1) := by decide +kernel
theorem dX12_readExpression_50 : decode cX12_readExpression 50 = .ok (.iconst 2, 1) := by decide +kernel
theorem dX12_readExpression_51 : decode cX12_readExpression 51 = .ok (.invokevirtual 255, 3) := by decide +kernel
theorem dX12_readExpression_54 : decode cX12_readExpression 54 = .ok (.aload_n 0, 1) := by decide +kernel
theorem dX12_readExpression_55 : decode cX12_readExpression 55 = .ok (.getfield 232, 3) := by decide +kernel
theorem dX12_readExpression_58 : decode cX12_readExpression 58 = .ok (.ifCond .eq 4, 3) := by decide +kernel
theorem dX12_readExpression_61 : decode cX12_readExpression 61 = .ok (.return_, 1) := by decide +kernel
theorem dX12_readExpression_62 : decode cX12_readExpression 62 = .ok (.aload_n 0, 1) := by decide +kernel
theorem dX12_readExpression_63 : decode cX12_readExpression 63 = .ok (.iload_n 1, 1) := by decide +kernel
theorem dX12_readExpression_64 : decode cX12_readExpression 64 = .ok (.invokevirtual 265, 3) := by decide +kernel
theorem dX12_readExpression_67 : decode cX12_readExpression 67 = .ok (.aload_n 0, 1) := by decide +kernel
theorem dX12_readExpression_68 : decode cX12_readExpression 68 = .ok (.getfield 232, 3) := by decide +kernel
theorem dX12_readExpression_71 : decode cX12_readExpression 71 = .ok (.ifCond .ne 58, 3) := by decide +kernel
theorem dX12_readExpression_74 : decode cX12_readExpression 74 = .ok (.aload_n 0, 1) := by decide +kernel
theorem dX12_readExpression_75 : decode cX12_readExpression 75 = .ok (.ldc_w 268, 3) := by decide +kernel
theorem dX12_readExpression_78 : decode cX12_readExpression 78 = .ok (.invokevirtual 249, 3) := by decide +kernel
theorem dX12_readExpression_81 : decode cX12_readExpression 81 = .ok (.ifCond .ne 13, 3) := by decide +kernel
theorem dX12_readExpression_84 : decode cX12_readExpression 84 = .ok (.aload_n 0, 1) := by decide +kernel
theorem dX12_readExpression_85 : decode cX12_readExpression 85 = .ok (.ldc_w 270, 3) := by decide +kernel
theorem dX12_readExpression_88 : decode cX12_readExpression 88 = .ok (.invokevirtual 249, 3) := by decide +kernel
theorem dX12_readExpression_91 : decode cX12_readExpression 91 = .ok (.ifCond .eq 38, 3) := by decide +kernel
theorem dX12_readExpression_94 : decode cX12_readExpression 94 = .ok (.aload_n 0, 1) := by decide +kernel
theorem dX12_readExpression_95 : decode cX12_readExpression 95 = .ok (.ldc_w 268, 3) := by decide +kernel
theorem dX12_readExpression_98 : decode cX12_readExpression 98 = .ok (.invokevirtual 249, 3) := by decide +kernel
theorem dX12_readExpression_101 : decode cX12_readExpression 101 = .ok (.ifCond .eq 8, 3) := by decide +kernel
theorem dX12_readExpression_104 : decode cX12_readExpression 104 = .ok (.bipush 7, 2) := by decide +kernel
theorem dX12_readExpression_106 : decode cX12_readExpression 106 = .ok (.goto 5, 3) := by decide +kernel
theorem dX12_readExpression_109 : decode cX12_readExpression 109 = .ok (.bipush 8, 2) := by decide +kernel
theorem dX12_readExpression_111 : decode cX12_readExpression 111 = .ok (.istore_n 3, 1) := by decide +kernel
theorem dX12_readExpression_112 : decode cX12_readExpression 112 = .ok (.aload_n 0, 1) := by decide +kernel
theorem dX12_readExpression_113 : decode cX12_readExpression 113 = .ok (.invokevirtual 244, 3) := by decide +kernel
theorem dX12_readExpression_116 : decode cX12_readExpression 116 = .ok (.aload_n 0, 1) := by decide +kernel
theorem dX12_readExpression_117 : decode cX12_readExpression 117 = .ok (.iload_n 1, 1) := by decide +kernel
theorem dX12_readExpression_118 : decode cX12_readExpression 118 = .ok (.invokevirtual 265, 3) := by decide +kernel
theorem dX12_readExpression_121 : decode cX12_readExpression 121 = .ok (.aload_n 0, 1) := by decide +kernel
theorem dX12_readExpression_122 : decode cX12_readExpression 122 = .ok (.iload_n 3, 1) := by decide +kernel
theorem dX12_readExpression_123 : decode cX12_readExpression 123 = .ok (.invokevirtual 272, 3) := by decide +kernel
theorem dX12_readExpression_126 : decode cX12_readExpression 126 = .ok (.goto (-59), 3) := by decide +kernel
theorem dX12_readExpression_129 : decode cX12_readExpression 129 = .ok (.return_, 1) := by decide +kernel
def wX12_readExpression_25 (re : Int32 → km_S → (km_S → Prop) → Prop) (k30 : Int32 → Int32 → km_S → Prop) (Q : km_S → Prop) (l1 : Int32) (μ : km_S) : Prop := k30 l1 1 μ
def wX12_readExpression_111 (re : Int32 → km_S → (km_S → Prop) → Prop) (k67 : Int32 → km_S → Prop) (Q : km_S → Prop) (l1 : Int32) (s0 : Int32) (μ : km_S) : Prop := wX12_step μ fun μ1 => wX12_readTest re l1 μ1 fun μ2 => wX12_emit s0 μ2 fun μ3 => k67 l1 μ3
def wX12_readExpression_94 (re : Int32 → km_S → (km_S → Prop) → Prop) (k67 : Int32 → km_S → Prop) (Q : km_S → Prop) (l1 : Int32) (μ : km_S) : Prop := wX12_isWord 9 μ fun r5 μ4 => ((r5 = 0 → wX12_readExpression_111 re k67 Q l1 8 μ4) ∧
  (¬ (r5 = 0) → wX12_readExpression_111 re k67 Q l1 7 μ4))
def wX12_readExpression_67 (re : Int32 → km_S → (km_S → Prop) → Prop) (Q : km_S → Prop) : Nat → Int32 → km_S → Prop
  | 0, _, _ => False
  | n + 1, l1, μ => ((¬ (km_i μ 66) = 0 → Q μ) ∧
    ((km_i μ 66) = 0 → wX12_isWord 9 μ fun r9 μ8 => ((¬ r9 = 0 → wX12_readExpression_94 re (wX12_readExpression_67 re Q n) Q l1 μ8) ∧
      (r9 = 0 → wX12_isWord 10 μ8 fun r12 μ11 => ((r12 = 0 → Q μ11) ∧
        (¬ (r12 = 0) → wX12_readExpression_94 re (wX12_readExpression_67 re Q n) Q l1 μ11))))))
def wX12_readExpression_54 (re : Int32 → km_S → (km_S → Prop) → Prop) (Q : km_S → Prop) (l1 : Int32) (μ : km_S) : Prop := (((km_i μ 66) = 0 → wX12_readTest re l1 μ fun μ15 => ∃ j, wX12_readExpression_67 re Q j l1 μ15) ∧
  (¬ ((km_i μ 66) = 0) → Q μ))
def wX12_readExpression_30 (re : Int32 → km_S → (km_S → Prop) → Prop) (Q : km_S → Prop) (l1 : Int32) (s0 : Int32) (μ : km_S) : Prop := ((¬ s0 = 0 → ((¬ l1 = 8 → wX12_readExpression_54 re Q l1 μ) ∧
    (l1 = 8 → wX12_wrong 2 μ fun μ19 => wX12_readExpression_54 re Q l1 μ19))) ∧
  (s0 = 0 → wX12_wrong 1 μ fun μ20 => wX12_readExpression_54 re Q l1 μ20))
def wX12_readExpression_b (re : Int32 → km_S → (km_S → Prop) → Prop) (l1 : Int32) (μ : km_S) (Q : km_S → Prop) : Prop := (((km_i μ 62) = 1 → wX12_readExpression_25 re (wX12_readExpression_30 re Q) Q l1 μ) ∧
  (¬ ((km_i μ 62) = 1) → (((km_i μ 62) = 2 → wX12_readExpression_25 re (wX12_readExpression_30 re Q) Q l1 μ) ∧
    (¬ ((km_i μ 62) = 2) → wX12_isSign 40 μ fun r24 μ23 => ((r24 = 0 → wX12_readExpression_30 re Q l1 0 μ23) ∧
      (¬ (r24 = 0) → wX12_readExpression_25 re (wX12_readExpression_30 re Q) Q l1 μ23))))))
set_option maxRecDepth 100000 in
set_option maxHeartbeats 4000000 in
theorem tX12_readExpression_25 (l : Launch) (G : km_G) (re : Int32 → km_S → (km_S → Prop) → Prop) (FR LO : Nat) (hre : ∀ (a : Int32) (μ : km_S) (P : km_S → Prop), re a μ P → km_M l G yX12_readExpression cX12_readExpression 4 none FR LO [.ref (G.1 0), .int a] μ (km_Qv G P)) {p : Program} {e : Env} {s : State} {m : MethodId} {args : Array Value} {below : List Frame} {meth : Method} {c : Code} (F : CallFix p m c cX12_readExpression 4 s args kt_ RX12) (hr : meth.sig.returnType = none) (hlocks : meth.locks = false) (Q : km_S → Prop) (k30 : Int32 → Int32 → km_S → Prop) (hk30 : ∀ (l1 : Int32) (s0 : Int32) (μ : km_S) (H : Heap) (locs : List Loc) (ls : Array Slot), k30 l1 s0 μ → km_X G s H locs μ → lv_has ls 4 [(0, .ref (G.1 0)), (1, .int l1)] → W p l e { frames := FR + 9, cells := 0, slots := 0, locals := LO + 198 } s m args below meth c H locs 0 0 (MQ below (km_Qv G Q) args s 0 0 (km_A G)) (F0 m 30 ls [.int s0])) : ∀ (l1 : Int32) (μ : km_S) (H : Heap) (locs : List Loc) (ls : Array Slot), wX12_readExpression_25 re k30 Q l1 μ → km_X G s H locs μ → lv_has ls 4 [(0, .ref (G.1 0)), (1, .int l1)] → W p l e { frames := FR + 9, cells := 0, slots := 0, locals := LO + 198 } s m args below meth c H locs 0 0 (MQ below (km_Qv G Q) args s 0 0 (km_A G)) (F0 m 25 ls []) := by
  intro l1 μ H locs ls h C hl
  refine lv_iconst (v := 1) F.1 F.2.1 dX12_readExpression_25 (by decide) ?_
  refine lv_goto (tgt := 30) F.1 F.2.1 dX12_readExpression_26 (by decide) ?_
  exact hk30 l1 1 μ H locs ls h C (lv_sub hl [0, 1] rfl)
set_option maxRecDepth 100000 in
set_option maxHeartbeats 4000000 in
theorem tX12_readExpression_111 (l : Launch) (G : km_G) (re : Int32 → km_S → (km_S → Prop) → Prop) (FR LO : Nat) (hre : ∀ (a : Int32) (μ : km_S) (P : km_S → Prop), re a μ P → km_M l G yX12_readExpression cX12_readExpression 4 none FR LO [.ref (G.1 0), .int a] μ (km_Qv G P)) {p : Program} {e : Env} {s : State} {m : MethodId} {args : Array Value} {below : List Frame} {meth : Method} {c : Code} (F : CallFix p m c cX12_readExpression 4 s args kt_ RX12) (hr : meth.sig.returnType = none) (hlocks : meth.locks = false) (Q : km_S → Prop) (k67 : Int32 → km_S → Prop) (hk67 : ∀ (l1 : Int32) (μ : km_S) (H : Heap) (locs : List Loc) (ls : Array Slot), k67 l1 μ → km_X G s H locs μ → lv_has ls 4 [(0, .ref (G.1 0)), (1, .int l1)] → W p l e { frames := FR + 9, cells := 0, slots := 0, locals := LO + 198 } s m args below meth c H locs 0 0 (MQ below (km_Qv G Q) args s 0 0 (km_A G)) (F0 m 67 ls [])) : ∀ (l1 : Int32) (s0 : Int32) (μ : km_S) (H : Heap) (locs : List Loc) (ls : Array Slot), wX12_readExpression_111 re k67 Q l1 s0 μ → km_X G s H locs μ → lv_has ls 4 [(0, .ref (G.1 0)), (1, .int l1)] → W p l e { frames := FR + 9, cells := 0, slots := 0, locals := LO + 198 } s m args below meth c H locs 0 0 (MQ below (km_Qv G Q) args s 0 0 (km_A G)) (F0 m 111 ls [.int s0]) := by
  intro l1 s0 μ H locs ls h C hl
  refine lv_istore_n (lv' := [(3, .int s0), (0, .ref (G.1 0)), (1, .int l1)]) F.1 F.2.1 dX12_readExpression_111 rfl hl (by decide) rfl (fun ls hl => ?_)
  refine lv_aload_n F.1 F.2.1 dX12_readExpression_112 rfl (lv_at hl 1 rfl) ?_
  refine kc_X12_step F C h (by dsimp only; omega) (by dsimp only; omega) hl.1 (by simp [Value.category]) dX12_readExpression_113 (fun μ1 H locs h C => ?_)
  refine lv_aload_n F.1 F.2.1 dX12_readExpression_116 rfl (lv_at hl 1 rfl) ?_
  refine lv_iload_n F.1 F.2.1 dX12_readExpression_117 rfl (lv_at hl 2 rfl) ?_
  refine kc_X12_readTest F C re FR LO hre h (by dsimp only; omega) (by dsimp only; omega) hl.1 (by simp [Value.category]) dX12_readExpression_118 (fun μ2 H locs h C => ?_)
  refine lv_aload_n F.1 F.2.1 dX12_readExpression_121 rfl (lv_at hl 1 rfl) ?_
  refine lv_iload_n F.1 F.2.1 dX12_readExpression_122 rfl (lv_at hl 0 rfl) ?_
  refine kc_X12_emit F C h (by dsimp only; omega) (by dsimp only; omega) hl.1 (by simp [Value.category]) dX12_readExpression_123 (fun μ3 H locs h C => ?_)
  refine lv_goto (tgt := 67) F.1 F.2.1 dX12_readExpression_126 (by decide) ?_
  exact hk67 l1 μ3 H locs ls h C (lv_sub hl [1, 2] rfl)
set_option maxRecDepth 100000 in
set_option maxHeartbeats 4000000 in
theorem tX12_readExpression_94 (l : Launch) (G : km_G) (re : Int32 → km_S → (km_S → Prop) → Prop) (FR LO : Nat) (hre : ∀ (a : Int32) (μ : km_S) (P : km_S → Prop), re a μ P → km_M l G yX12_readExpression cX12_readExpression 4 none FR LO [.ref (G.1 0), .int a] μ (km_Qv G P)) {p : Program} {e : Env} {s : State} {m : MethodId} {args : Array Value} {below : List Frame} {meth : Method} {c : Code} (F : CallFix p m c cX12_readExpression 4 s args kt_ RX12) (hr : meth.sig.returnType = none) (hlocks : meth.locks = false) (Q : km_S → Prop) (k67 : Int32 → km_S → Prop) (hk67 : ∀ (l1 : Int32) (μ : km_S) (H : Heap) (locs : List Loc) (ls : Array Slot), k67 l1 μ → km_X G s H locs μ → lv_has ls 4 [(0, .ref (G.1 0)), (1, .int l1)] → W p l e { frames := FR + 9, cells := 0, slots := 0, locals := LO + 198 } s m args below meth c H locs 0 0 (MQ below (km_Qv G Q) args s 0 0 (km_A G)) (F0 m 67 ls [])) : ∀ (l1 : Int32) (μ : km_S) (H : Heap) (locs : List Loc) (ls : Array Slot), wX12_readExpression_94 re k67 Q l1 μ → km_X G s H locs μ → lv_has ls 4 [(0, .ref (G.1 0)), (1, .int l1)] → W p l e { frames := FR + 9, cells := 0, slots := 0, locals := LO + 198 } s m args below meth c H locs 0 0 (MQ below (km_Qv G Q) args s 0 0 (km_A G)) (F0 m 94 ls []) := by
  intro l1 μ H locs ls h C hl
  refine lv_aload_n F.1 F.2.1 dX12_readExpression_94 rfl (lv_at hl 0 rfl) ?_
  refine km_ldcSW F.1 F.2.1 F.2.2.2.1 C.2.2.2.2.2.2.2.1 dX12_readExpression_95 ?_
  refine kc_X12_isWord F C h (by dsimp only; omega) (by dsimp only; omega) hl.1 (by simp [Value.category]) dX12_readExpression_98 (fun r5 μ4 H locs h C => ?_)
  refine lv_if_eq (tgt := 109) F.1 F.2.1 dX12_readExpression_101 (by decide) (fun c6 => ?_) (fun c6 => ?_)
  · have h := h.1 c6
    refine lv_bipush (v := 8) F.1 F.2.1 dX12_readExpression_109 (by decide) ?_
    exact tX12_readExpression_111 l G re FR LO hre F hr hlocks Q k67 hk67 l1 8 μ4 H locs ls h C (lv_sub hl [0, 1] rfl)
  · have h := h.2 c6
    refine lv_bipush (v := 7) F.1 F.2.1 dX12_readExpression_104 (by decide) ?_
    refine lv_goto (tgt := 111) F.1 F.2.1 dX12_readExpression_106 (by decide) ?_
    exact tX12_readExpression_111 l G re FR LO hre F hr hlocks Q k67 hk67 l1 7 μ4 H locs ls h C (lv_sub hl [0, 1] rfl)
set_option maxRecDepth 100000 in
set_option maxHeartbeats 4000000 in
theorem tX12_readExpression_67 (l : Launch) (G : km_G) (re : Int32 → km_S → (km_S → Prop) → Prop) (FR LO : Nat) (hre : ∀ (a : Int32) (μ : km_S) (P : km_S → Prop), re a μ P → km_M l G yX12_readExpression cX12_readExpression 4 none FR LO [.ref (G.1 0), .int a] μ (km_Qv G P)) {p : Program} {e : Env} {s : State} {m : MethodId} {args : Array Value} {below : List Frame} {meth : Method} {c : Code} (F : CallFix p m c cX12_readExpression 4 s args kt_ RX12) (hr : meth.sig.returnType = none) (hlocks : meth.locks = false) (Q : km_S → Prop) : ∀ (n : Nat) (l1 : Int32) (μ : km_S) (H : Heap) (locs : List Loc) (ls : Array Slot), wX12_readExpression_67 re Q n l1 μ → km_X G s H locs μ → lv_has ls 4 [(0, .ref (G.1 0)), (1, .int l1)] → W p l e { frames := FR + 9, cells := 0, slots := 0, locals := LO + 198 } s m args below meth c H locs 0 0 (MQ below (km_Qv G Q) args s 0 0 (km_A G)) (F0 m 67 ls []) := by
  intro n
  induction n with
  | zero => intro l1 μ H locs ls h; exact h.elim
  | succ n ih =>
    intro l1 μ H locs ls h C hl
    refine lv_aload_n F.1 F.2.1 dX12_readExpression_67 rfl (lv_at hl 0 rfl) ?_
    refine kg_bad F C dX12_readExpression_68 ?_
    refine lv_if_ne (tgt := 129) F.1 F.2.1 dX12_readExpression_71 (by decide) (fun c7 => ?_) (fun c7 => ?_)
    · have h := h.1 c7
      exact km_vret F C hr hlocks h dX12_readExpression_129
    · have h := h.2 c7
      refine lv_aload_n F.1 F.2.1 dX12_readExpression_74 rfl (lv_at hl 0 rfl) ?_
      refine km_ldcSW F.1 F.2.1 F.2.2.2.1 C.2.2.2.2.2.2.2.1 dX12_readExpression_75 ?_
      refine kc_X12_isWord F C h (by dsimp only; omega) (by dsimp only; omega) hl.1 (by simp [Value.category]) dX12_readExpression_78 (fun r9 μ8 H locs h C => ?_)
      refine lv_if_ne (tgt := 94) F.1 F.2.1 dX12_readExpression_81 (by decide) (fun c10 => ?_) (fun c10 => ?_)
      · have h := h.1 c10
        exact tX12_readExpression_94 l G re FR LO hre F hr hlocks Q (wX12_readExpression_67 re Q n) (fun l1 μ9 H locs ls h C hl => ih l1 μ9 H locs ls h C hl) l1 μ8 H locs ls h C (lv_sub hl [0, 1] rfl)
      · have h := h.2 c10
        refine lv_aload_n F.1 F.2.1 dX12_readExpression_84 rfl (lv_at hl 0 rfl) ?_
        refine km_ldcSW F.1 F.2.1 F.2.2.2.1 C.2.2.2.2.2.2.2.2.1 dX12_readExpression_85 ?_
        refine kc_X12_isWord F C h (by dsimp only; omega) (by dsimp only; omega) hl.1 (by simp [Value.category]) dX12_readExpression_88 (fun r12 μ11 H locs h C => ?_)
        refine lv_if_eq (tgt := 129) F.1 F.2.1 dX12_readExpression_91 (by decide) (fun c13 => ?_) (fun c13 => ?_)
        · have h := h.1 c13
          exact km_vret F C hr hlocks h dX12_readExpression_129
        · have h := h.2 c13
          exact tX12_readExpression_94 l G re FR LO hre F hr hlocks Q (wX12_readExpression_67 re Q n) (fun l1 μ9 H locs ls h C hl => ih l1 μ9 H locs ls h C hl) l1 μ11 H locs ls h C (lv_sub hl [0, 1] rfl)
set_option maxRecDepth 100000 in
set_option maxHeartbeats 4000000 in
theorem tX12_readExpression_54 (l : Launch) (G : km_G) (re : Int32 → km_S → (km_S → Prop) → Prop) (FR LO : Nat) (hre : ∀ (a : Int32) (μ : km_S) (P : km_S → Prop), re a μ P → km_M l G yX12_readExpression cX12_readExpression 4 none FR LO [.ref (G.1 0), .int a] μ (km_Qv G P)) {p : Program} {e : Env} {s : State} {m : MethodId} {args : Array Value} {below : List Frame} {meth : Method} {c : Code} (F : CallFix p m c cX12_readExpression 4 s args kt_ RX12) (hr : meth.sig.returnType = none) (hlocks : meth.locks = false) (Q : km_S → Prop) : ∀ (l1 : Int32) (μ : km_S) (H : Heap) (locs : List Loc) (ls : Array Slot), wX12_readExpression_54 re Q l1 μ → km_X G s H locs μ → lv_has ls 4 [(0, .ref (G.1 0)), (1, .int l1)] → W p l e { frames := FR + 9, cells := 0, slots := 0, locals := LO + 198 } s m args below meth c H locs 0 0 (MQ below (km_Qv G Q) args s 0 0 (km_A G)) (F0 m 54 ls []) := by
  intro l1 μ H locs ls h C hl
  refine lv_aload_n F.1 F.2.1 dX12_readExpression_54 rfl (lv_at hl 0 rfl) ?_
  refine kg_bad F C dX12_readExpression_55 ?_
  refine lv_if_eq (tgt := 62) F.1 F.2.1 dX12_readExpression_58 (by decide) (fun c14 => ?_) (fun c14 => ?_)
  · have h := h.1 c14
    refine lv_aload_n F.1 F.2.1 dX12_readExpression_62 rfl (lv_at hl 0 rfl) ?_
    refine lv_iload_n F.1 F.2.1 dX12_readExpression_63 rfl (lv_at hl 1 rfl) ?_
    refine kc_X12_readTest F C re FR LO hre h (by dsimp only; omega) (by dsimp only; omega) hl.1 (by simp [Value.category]) dX12_readExpression_64 (fun μ15 H locs h C => ?_)
    obtain ⟨n16, h⟩ := h
    exact tX12_readExpression_67 l G re FR LO hre F hr hlocks Q n16 l1 μ15 H locs ls h C (lv_sub hl [0, 1] rfl)
  · have h := h.2 c14
    exact km_vret F C hr hlocks h dX12_readExpression_61
set_option maxRecDepth 100000 in
set_option maxHeartbeats 4000000 in
theorem tX12_readExpression_30 (l : Launch) (G : km_G) (re : Int32 → km_S → (km_S → Prop) → Prop) (FR LO : Nat) (hre : ∀ (a : Int32) (μ : km_S) (P : km_S → Prop), re a μ P → km_M l G yX12_readExpression cX12_readExpression 4 none FR LO [.ref (G.1 0), .int a] μ (km_Qv G P)) {p : Program} {e : Env} {s : State} {m : MethodId} {args : Array Value} {below : List Frame} {meth : Method} {c : Code} (F : CallFix p m c cX12_readExpression 4 s args kt_ RX12) (hr : meth.sig.returnType = none) (hlocks : meth.locks = false) (Q : km_S → Prop) : ∀ (l1 : Int32) (s0 : Int32) (μ : km_S) (H : Heap) (locs : List Loc) (ls : Array Slot), wX12_readExpression_30 re Q l1 s0 μ → km_X G s H locs μ → lv_has ls 4 [(0, .ref (G.1 0)), (1, .int l1)] → W p l e { frames := FR + 9, cells := 0, slots := 0, locals := LO + 198 } s m args below meth c H locs 0 0 (MQ below (km_Qv G Q) args s 0 0 (km_A G)) (F0 m 30 ls [.int s0]) := by
  intro l1 s0 μ H locs ls h C hl
  refine lv_istore_n (lv' := [(2, .int s0), (0, .ref (G.1 0)), (1, .int l1)]) F.1 F.2.1 dX12_readExpression_30 rfl hl (by decide) rfl (fun ls hl => ?_)
  refine lv_iload_n F.1 F.2.1 dX12_readExpression_31 rfl (lv_at hl 0 rfl) ?_
  refine lv_if_ne (tgt := 43) F.1 F.2.1 dX12_readExpression_32 (by decide) (fun c17 => ?_) (fun c17 => ?_)
  · have h := h.1 c17
    refine lv_iload_n F.1 F.2.1 dX12_readExpression_43 rfl (lv_at hl 2 rfl) ?_
    refine lv_bipush (v := 8) F.1 F.2.1 dX12_readExpression_44 (by decide) ?_
    refine lv_icmp_ne (tgt := 54) F.1 F.2.1 dX12_readExpression_46 (by decide) (fun c18 => ?_) (fun c18 => ?_)
    · have h := h.1 c18
      exact tX12_readExpression_54 l G re FR LO hre F hr hlocks Q l1 μ H locs ls h C (lv_sub hl [1, 2] rfl)
    · have h := h.2 c18
      refine lv_aload_n F.1 F.2.1 dX12_readExpression_49 rfl (lv_at hl 1 rfl) ?_
      refine lv_iconst (v := 2) F.1 F.2.1 dX12_readExpression_50 (by decide) ?_
      refine kc_X12_wrong F C h (by dsimp only; omega) (by dsimp only; omega) hl.1 (by simp [Value.category]) dX12_readExpression_51 (fun μ19 H locs h C => ?_)
      exact tX12_readExpression_54 l G re FR LO hre F hr hlocks Q l1 μ19 H locs ls h C (lv_sub hl [1, 2] rfl)
  · have h := h.2 c17
    refine lv_aload_n F.1 F.2.1 dX12_readExpression_35 rfl (lv_at hl 1 rfl) ?_
    refine lv_iconst (v := 1) F.1 F.2.1 dX12_readExpression_36 (by decide) ?_
    refine kc_X12_wrong F C h (by dsimp only; omega) (by dsimp only; omega) hl.1 (by simp [Value.category]) dX12_readExpression_37 (fun μ20 H locs h C => ?_)
    refine lv_goto (tgt := 54) F.1 F.2.1 dX12_readExpression_40 (by decide) ?_
    exact tX12_readExpression_54 l G re FR LO hre F hr hlocks Q l1 μ20 H locs ls h C (lv_sub hl [1, 2] rfl)
set_option maxRecDepth 100000 in
set_option maxHeartbeats 4000000 in
theorem hc_X12_readExpression_b (l : Launch) (G : km_G) (re : Int32 → km_S → (km_S → Prop) → Prop) (FR LO : Nat) (hre : ∀ (a : Int32) (μ : km_S) (P : km_S → Prop), re a μ P → km_M l G yX12_readExpression cX12_readExpression 4 none FR LO [.ref (G.1 0), .int a] μ (km_Qv G P)) (l1 : Int32) (μ : km_S) (Q : km_S → Prop) (h : wX12_readExpression_b re l1 μ Q) : km_M l G yX12_readExpression cX12_readExpression 4 none (FR + 9) (LO + 198) [.ref (G.1 0), .int l1] μ (km_Qv G Q) := by
  refine km_enter (by decide) rfl (Nat.le_of_ble_eq_true rfl) ?_
  intro p e s m below meth c ls F hr hlocks C hl
  have hl : lv_has ls 4 [(0, .ref (G.1 0)), (1, .int l1)] := hl
  obtain ⟨H, eH⟩ : ∃ z9, z9 = s.heap := ⟨_, rfl⟩
  obtain ⟨locs, eL⟩ : ∃ z9 : List Loc, z9 = [] := ⟨_, rfl⟩
  rw [← eH, ← eL] at C
  rw [← eH, ← eL]
  refine lv_aload_n F.1 F.2.1 dX12_readExpression_0 rfl (lv_at hl 0 rfl) ?_
  refine kg_token F C dX12_readExpression_1 ?_
  refine lv_iconst (v := 1) F.1 F.2.1 dX12_readExpression_4 (by decide) ?_
  refine lv_icmp_eq (tgt := 25) F.1 F.2.1 dX12_readExpression_5 (by decide) (fun c21 => ?_) (fun c21 => ?_)
  · have h := h.1 c21
    exact tX12_readExpression_25 l G re FR LO hre F hr hlocks Q (wX12_readExpression_30 re Q) (tX12_readExpression_30 l G re FR LO hre F hr hlocks Q) l1 μ H locs ls h C (lv_sub hl [0, 1] rfl)
  · have h := h.2 c21
    refine lv_aload_n F.1 F.2.1 dX12_readExpression_8 rfl (lv_at hl 0 rfl) ?_
    refine kg_token F C dX12_readExpression_9 ?_
    refine lv_iconst (v := 2) F.1 F.2.1 dX12_readExpression_12 (by decide) ?_
    refine lv_icmp_eq (tgt := 25) F.1 F.2.1 dX12_readExpression_13 (by decide) (fun c22 => ?_) (fun c22 => ?_)
    · have h := h.1 c22
      exact tX12_readExpression_25 l G re FR LO hre F hr hlocks Q (wX12_readExpression_30 re Q) (tX12_readExpression_30 l G re FR LO hre F hr hlocks Q) l1 μ H locs ls h C (lv_sub hl [0, 1] rfl)
    · have h := h.2 c22
      refine lv_aload_n F.1 F.2.1 dX12_readExpression_16 rfl (lv_at hl 0 rfl) ?_
      refine lv_bipush (v := 40) F.1 F.2.1 dX12_readExpression_17 (by decide) ?_
      refine kc_X12_isSign F C h (by dsimp only; omega) (by dsimp only; omega) hl.1 (by simp [Value.category]) dX12_readExpression_19 (fun r24 μ23 H locs h C => ?_)
      refine lv_if_eq (tgt := 29) F.1 F.2.1 dX12_readExpression_22 (by decide) (fun c25 => ?_) (fun c25 => ?_)
      · have h := h.1 c25
        refine lv_iconst (v := 0) F.1 F.2.1 dX12_readExpression_29 (by decide) ?_
        exact tX12_readExpression_30 l G re FR LO hre F hr hlocks Q l1 0 μ23 H locs ls h C (lv_sub hl [0, 1] rfl)
      · have h := h.2 c25
        exact tX12_readExpression_25 l G re FR LO hre F hr hlocks Q (wX12_readExpression_30 re Q) (tX12_readExpression_30 l G re FR LO hre F hr hlocks Q) l1 μ23 H locs ls h C (lv_sub hl [0, 1] rfl)
section
variable {p : Program} {l : Launch} {e : Env} {R : Room} {s : State} {m : MethodId} {args : Array Value} {below : List Frame} {meth : Method} {c : Code} {H : Heap} {locs : List Loc} {Q : State → Prop}
variable {cc : ByteArray} {pc nL : Nat} {ls : Array Slot} {rest : List Value} {G : km_G} {μ : km_S}
end
def wX12_readExpression : Nat → Int32 → km_S → (km_S → Prop) → Prop
  | 0, _, _, _ => False
  | D + 1, a, μ, Q => wX12_readExpression_b (wX12_readExpression D) a μ Q
theorem hd_X12_readExpression (l : Launch) (G : km_G) : ∀ (D : Nat) (a : Int32) (μ : km_S) (P : km_S → Prop), wX12_readExpression D a μ P → km_M l G yX12_readExpression cX12_readExpression 4 none (D * 9) (D * 198) [.ref (G.1 0), .int a] μ (km_Qv G P) := by
  intro D
  induction D with
  | zero => intro a μ P h; exact h.elim
  | succ D ih =>
    intro a μ P h
    rw [Nat.succ_mul, Nat.succ_mul]
    exact hc_X12_readExpression_b l G (wX12_readExpression D) (D * 9) (D * 198) ih a μ P h
section
variable {p : Program} {l : Launch} {e : Env} {R : Room} {s : State} {m : MethodId} {args : Array Value} {below : List Frame} {meth : Method} {c : Code} {H : Heap} {locs : List Loc} {Q : State → Prop}
variable {cc : ByteArray} {pc nL : Nat} {ls : Array Slot} {rest : List Value} {G : km_G} {μ : km_S}
theorem kc_X12_readExpression (F : CallFix p m c cc nL s args kt_ RX12) (C : km_X G s H locs μ) {P : km_S → Prop} {l1 : Int32} (h : wX12_readExpression 10 l1 μ P) (h1 : 90 + 1 ≤ R.frames) (h2 : 8 + (4 + 11) + 1980 ≤ R.locals) (hsz : ls.size = nL) (hW : (rest.map fun v => v.category).sum ≤ 8) (hdg : decode cc pc = .ok (.invokevirtual 259, 3)) (kk : ∀ (μ' : km_S) (H1 : Heap) (locs1 : List Loc), P μ' → km_X G s H1 locs1 μ' → W p l e R s m args below meth c H1 locs1 0 0 Q (F0 m (pc + 3) ls rest)) : W p l e R s m args below meth c H locs 0 0 Q (F0 m pc ls (.int l1 :: .ref (G.1 0) :: rest)) :=
  kc_X12_readExpression_re F C (hd_X12_readExpression l G 10 l1 μ P h) h1 h2 hsz hW hdg kk
end
theorem dX12_readLaw_0 : decode cX12_readLaw 0 = .ok (.aload_n 0, 1) := by decide +kernel
theorem dX12_readLaw_1 : decode cX12_readLaw 1 = .ok (.invokevirtual 244, 3) := by decide +kernel
theorem dX12_readLaw_4 : decode cX12_readLaw 4 = .ok (.iconst 0, 1) := by decide +kernel
theorem dX12_readLaw_5 : decode cX12_readLaw 5 = .ok (.istore_n 1, 1) := by decide +kernel
theorem dX12_readLaw_6 : decode cX12_readLaw 6 = .ok (.aload_n 0, 1) := by decide +kernel
theorem dX12_readLaw_7 : decode cX12_readLaw 7 = .ok (.getfield 232, 3) := by decide +kernel
theorem dX12_readLaw_10 : decode cX12_readLaw 10 = .ok (.ifCond .ne 137, 3) := by decide +kernel
theorem dX12_readLaw_13 : decode cX12_readLaw 13 = .ok (.aload_n 0, 1) := by decide +kernel
theorem dX12_readLaw_14 : decode cX12_readLaw 14 = .ok (.getfield 214, 3) := by decide +kernel
theorem dX12_readLaw_17 : decode cX12_readLaw 17 = .ok (.ifCond .eq 130, 3) := by decide +kernel
theorem dX12_readLaw_20 : decode cX12_readLaw 20 = .ok (.aload_n 0, 1) := by decide +kernel
theorem dX12_readLaw_21 : decode cX12_readLaw 21 = .ok (.ldc 247, 2) := by decide +kernel
theorem dX12_readLaw_23 : decode cX12_readLaw 23 = .ok (.invokevirtual 249, 3) := by decide +kernel
theorem dX12_readLaw_26 : decode cX12_readLaw 26 = .ok (.istore_n 2, 1) := by decide +kernel
theorem dX12_readLaw_27 : decode cX12_readLaw 27 = .ok (.iload_n 2, 1) := by decide +kernel
theorem dX12_readLaw_28 : decode cX12_readLaw 28 = .ok (.ifCond .ne 20, 3) := by decide +kernel
theorem dX12_readLaw_31 : decode cX12_readLaw 31 = .ok (.aload_n 0, 1) := by decide +kernel
theorem dX12_readLaw_32 : decode cX12_readLaw 32 = .ok (.ldc 253, 2) := by decide +kernel
theorem dX12_readLaw_34 : decode cX12_readLaw 34 = .ok (.invokevirtual 249, 3) := by decide +kernel
theorem dX12_readLaw_37 : decode cX12_readLaw 37 = .ok (.ifCond .ne 11, 3) := by decide +kernel
theorem dX12_readLaw_40 : decode cX12_readLaw 40 = .ok (.aload_n 0, 1) := by decide +kernel
theorem dX12_readLaw_41 : decode cX12_readLaw 41 = .ok (.iconst 1, 1) := by decide +kernel
theorem dX12_readLaw_42 : decode cX12_readLaw 42 = .ok (.invokevirtual 255, 3) := by decide +kernel
theorem dX12_readLaw_45 : decode cX12_readLaw 45 = .ok (.goto 14, 3) := by decide +kernel
theorem dX12_readLaw_48 : decode cX12_readLaw 48 = .ok (.iload_n 1, 1) := by decide +kernel
theorem dX12_readLaw_49 : decode cX12_readLaw 49 = .ok (.bipush 12, 2) := by decide +kernel
theorem dX12_readLaw_51 : decode cX12_readLaw 51 = .ok (.if_icmp .ne 8, 3) := by decide +kernel
theorem dX12_readLaw_54 : decode cX12_readLaw 54 = .ok (.aload_n 0, 1) := by decide +kernel
theorem dX12_readLaw_55 : decode cX12_readLaw 55 = .ok (.iconst 2, 1) := by decide +kernel
theorem dX12_readLaw_56 : decode cX12_readLaw 56 = .ok (.invokevirtual 255, 3) := by decide +kernel
theorem dX12_readLaw_59 : decode cX12_readLaw 59 = .ok (.aload_n 0, 1) := by decide +kernel
theorem dX12_readLaw_60 : decode cX12_readLaw 60 = .ok (.getfield 232, 3) := by decide +kernel
theorem dX12_readLaw_63 : decode cX12_readLaw 63 = .ok (.ifCond .eq 4, 3) := by decide +kernel
theorem dX12_readLaw_66 : decode cX12_readLaw 66 = .ok (.return_, 1) := by decide +kernel
theorem dX12_readLaw_67 : decode cX12_readLaw 67 = .ok (.aload_n 0, 1) := by decide +kernel
theorem dX12_readLaw_68 : decode cX12_readLaw 68 = .ok (.getfield 167, 3) := by decide +kernel
theorem dX12_readLaw_71 : decode cX12_readLaw 71 = .ok (.bipush 12, 2) := by decide +kernel
theorem dX12_readLaw_73 : decode cX12_readLaw 73 = .ok (.aload_n 0, 1) := by decide +kernel
theorem dX12_readLaw_74 : decode cX12_readLaw 74 = .ok (.getfield 238, 3) := by decide +kernel
theorem dX12_readLaw_77 : decode cX12_readLaw 77 = .ok (.imul, 1) := by decide +kernel
theorem dX12_readLaw_78 : decode cX12_readLaw 78 = .ok (.iload_n 1, 1) := by decide +kernel
theorem dX12_readLaw_79 : decode cX12_readLaw 79 = .ok (.iadd, 1) := by decide +kernel
theorem dX12_readLaw_80 : decode cX12_readLaw 80 = .ok (.iload_n 2, 1) := by decide +kernel
theorem dX12_readLaw_81 : decode cX12_readLaw 81 = .ok (.bastore, 1) := by decide +kernel
theorem dX12_readLaw_82 : decode cX12_readLaw 82 = .ok (.aload_n 0, 1) := by decide +kernel
theorem dX12_readLaw_83 : decode cX12_readLaw 83 = .ok (.getfield 158, 3) := by decide +kernel
theorem dX12_readLaw_86 : decode cX12_readLaw 86 = .ok (.bipush 13, 2) := by decide +kernel
theorem dX12_readLaw_88 : decode cX12_readLaw 88 = .ok (.aload_n 0, 1) := by decide +kernel
theorem dX12_readLaw_89 : decode cX12_readLaw 89 = .ok (.getfield 238, 3) := by decide +kernel
theorem dX12_readLaw_92 : decode cX12_readLaw 92 = .ok (.imul, 1) := by decide +kernel
theorem dX12_readLaw_93 : decode cX12_readLaw 93 = .ok (.iload_n 1, 1) := by decide +kernel
theorem dX12_readLaw_94 : decode cX12_readLaw 94 = .ok (.iadd, 1) := by decide +kernel
theorem dX12_readLaw_95 : decode cX12_readLaw 95 = .ok (.aload_n 0, 1) := by decide +kernel
theorem dX12_readLaw_96 : decode cX12_readLaw 96 = .ok (.getfield 241, 3) := by decide +kernel
theorem dX12_readLaw_99 : decode cX12_readLaw 99 = .ok (.iastore, 1) := by decide +kernel
theorem dX12_readLaw_100 : decode cX12_readLaw 100 = .ok (.iinc 1 1, 3) := by decide +kernel
theorem dX12_readLaw_103 : decode cX12_readLaw 103 = .ok (.aload_n 0, 1) := by decide +kernel
theorem dX12_readLaw_104 : decode cX12_readLaw 104 = .ok (.invokevirtual 244, 3) := by decide +kernel
theorem dX12_readLaw_107 : decode cX12_readLaw 107 = .ok (.aload_n 0, 1) := by decide +kernel
theorem dX12_readLaw_108 : decode cX12_readLaw 108 = .ok (.iconst 0, 1) := by decide +kernel
theorem dX12_readLaw_109 : decode cX12_readLaw 109 = .ok (.invokevirtual 259, 3) := by decide +kernel
theorem dX12_readLaw_112 : decode cX12_readLaw 112 = .ok (.aload_n 0, 1) := by decide +kernel
theorem dX12_readLaw_113 : decode cX12_readLaw 113 = .ok (.getfield 232, 3) := by decide +kernel
theorem dX12_readLaw_116 : decode cX12_readLaw 116 = .ok (.ifCond .ne 17, 3) := by decide +kernel
theorem dX12_readLaw_119 : decode cX12_readLaw 119 = .ok (.aload_n 0, 1) := by decide +kernel
theorem dX12_readLaw_120 : decode cX12_readLaw 120 = .ok (.bipush 59, 2) := by decide +kernel
theorem dX12_readLaw_122 : decode cX12_readLaw 122 = .ok (.invokevirtual 262, 3) := by decide +kernel
theorem dX12_readLaw_125 : decode cX12_readLaw 125 = .ok (.ifCond .ne 8, 3) := by decide +kernel
theorem dX12_readLaw_128 : decode cX12_readLaw 128 = .ok (.aload_n 0, 1) := by decide +kernel
theorem dX12_readLaw_129 : decode cX12_readLaw 129 = .ok (.iconst 1, 1) := by decide +kernel
theorem dX12_readLaw_130 : decode cX12_readLaw 130 = .ok (.invokevirtual 255, 3) := by decide +kernel
theorem dX12_readLaw_133 : decode cX12_readLaw 133 = .ok (.aload_n 0, 1) := by decide +kernel
theorem dX12_readLaw_134 : decode cX12_readLaw 134 = .ok (.getfield 232, 3) := by decide +kernel
theorem dX12_readLaw_137 : decode cX12_readLaw 137 = .ok (.ifCond .ne 7, 3) := by decide +kernel
theorem dX12_readLaw_140 : decode cX12_readLaw 140 = .ok (.aload_n 0, 1) := by decide +kernel
theorem dX12_readLaw_141 : decode cX12_readLaw 141 = .ok (.invokevirtual 244, 3) := by decide +kernel
theorem dX12_readLaw_144 : decode cX12_readLaw 144 = .ok (.goto (-138), 3) := by decide +kernel
theorem dX12_readLaw_147 : decode cX12_readLaw 147 = .ok (.aload_n 0, 1) := by decide +kernel
theorem dX12_readLaw_148 : decode cX12_readLaw 148 = .ok (.getfield 158, 3) := by decide +kernel
theorem dX12_readLaw_151 : decode cX12_readLaw 151 = .ok (.bipush 13, 2) := by decide +kernel
theorem dX12_readLaw_153 : decode cX12_readLaw 153 = .ok (.aload_n 0, 1) := by decide +kernel
theorem dX12_readLaw_154 : decode cX12_readLaw 154 = .ok (.getfield 238, 3) := by decide +kernel
theorem dX12_readLaw_157 : decode cX12_readLaw 157 = .ok (.imul, 1) := by decide +kernel
theorem dX12_readLaw_158 : decode cX12_readLaw 158 = .ok (.iload_n 1, 1) := by decide +kernel
theorem dX12_readLaw_159 : decode cX12_readLaw 159 = .ok (.iadd, 1) := by decide +kernel
theorem dX12_readLaw_160 : decode cX12_readLaw 160 = .ok (.aload_n 0, 1) := by decide +kernel
theorem dX12_readLaw_161 : decode cX12_readLaw 161 = .ok (.getfield 241, 3) := by decide +kernel
theorem dX12_readLaw_164 : decode cX12_readLaw 164 = .ok (.iastore, 1) := by decide +kernel
theorem dX12_readLaw_165 : decode cX12_readLaw 165 = .ok (.aload_n 0, 1) := by decide +kernel
theorem dX12_readLaw_166 : decode cX12_readLaw 166 = .ok (.getfield 155, 3) := by decide +kernel
theorem dX12_readLaw_169 : decode cX12_readLaw 169 = .ok (.aload_n 0, 1) := by decide +kernel
theorem dX12_readLaw_170 : decode cX12_readLaw 170 = .ok (.getfield 238, 3) := by decide +kernel
theorem dX12_readLaw_173 : decode cX12_readLaw 173 = .ok (.iload_n 1, 1) := by decide +kernel
theorem dX12_readLaw_174 : decode cX12_readLaw 174 = .ok (.iastore, 1) := by decide +kernel
theorem dX12_readLaw_175 : decode cX12_readLaw 175 = .ok (.return_, 1) := by decide +kernel
def wX12_readLaw_144 (k6 : Int32 → km_S → Prop) (Q : km_S → Prop) (l1 : Int32) (μ : km_S) : Prop := k6 l1 μ
def wX12_readLaw_133 (k6 : Int32 → km_S → Prop) (Q : km_S → Prop) (l1 : Int32) (μ : km_S) : Prop := ((¬ (km_i μ 66) = 0 → wX12_readLaw_144 k6 Q l1 μ) ∧
  ((km_i μ 66) = 0 → wX12_step μ fun μ2 => wX12_readLaw_144 k6 Q l1 μ2))
def wX12_readLaw_48 (k59 : Int32 → Int32 → km_S → Prop) (Q : km_S → Prop) (l1 : Int32) (l2 : Int32) (μ : km_S) : Prop := ((¬ l1 = 12 → k59 l1 l2 μ) ∧
  (l1 = 12 → wX12_wrong 2 μ fun μ4 => k59 l1 l2 μ4))
def wX12_readLaw_147 (Q : km_S → Prop) (l1 : Int32) (μ : km_S) : Prop := vp_in ((13 * (km_i μ 5)) + l1) 78 ∧ ∀ μ6, μ6 = km_sa μ 55 ((13 * (km_i μ 5)) + l1).toNatClampNeg (km_i μ 59) → vp_in (km_i μ6 5) 6 ∧ ∀ μ8, μ8 = km_sa μ6 54 (km_i μ6 5).toNatClampNeg l1 → Q μ8
def wX12_readLaw_59 (k6 : Int32 → km_S → Prop) (Q : km_S → Prop) (l1 : Int32) (l2 : Int32) (μ : km_S) : Prop := (((km_i μ 66) = 0 → vp_in ((12 * (km_i μ 5)) + l1) 72 ∧ ∀ μ11, μ11 = km_sa μ 58 ((12 * (km_i μ 5)) + l1).toNatClampNeg (vp_nar .boolean l2) → vp_in ((13 * (km_i μ11 5)) + l1) 78 ∧ ∀ μ13, μ13 = km_sa μ11 55 ((13 * (km_i μ11 5)) + l1).toNatClampNeg (km_i μ11 59) → ∀ v14 : Int32, v14 = l1 + 1 → wX12_step μ13 fun μ15 => wX12_readExpression 10 0 μ15 fun μ16 => ((¬ (km_i μ16 66) = 0 → wX12_readLaw_133 k6 Q v14 μ16) ∧
    ((km_i μ16 66) = 0 → wX12_isSign 59 μ16 fun r19 μ18 => ((¬ r19 = 0 → wX12_readLaw_133 k6 Q v14 μ18) ∧
      (r19 = 0 → wX12_wrong 1 μ18 fun μ21 => wX12_readLaw_133 k6 Q v14 μ21))))) ∧
  (¬ ((km_i μ 66) = 0) → Q μ))
def wX12_readLaw_6 (k147 : Int32 → km_S → Prop) (Q : km_S → Prop) : Nat → Int32 → km_S → Prop
  | 0, _, _ => False
  | n + 1, l1, μ => ((¬ (km_i μ 66) = 0 → k147 l1 μ) ∧
    ((km_i μ 66) = 0 → (((km_i μ 62) = 0 → k147 l1 μ) ∧
      (¬ ((km_i μ 62) = 0) → wX12_isWord 7 μ fun r25 μ24 => ((¬ r25 = 0 → wX12_readLaw_48 (wX12_readLaw_59 (wX12_readLaw_6 k147 Q n) Q) Q l1 r25 μ24) ∧
        (r25 = 0 → wX12_isWord 8 μ24 fun r28 μ27 => ((¬ r28 = 0 → wX12_readLaw_48 (wX12_readLaw_59 (wX12_readLaw_6 k147 Q n) Q) Q l1 r25 μ27) ∧
          (r28 = 0 → wX12_wrong 1 μ27 fun μ30 => wX12_readLaw_59 (wX12_readLaw_6 k147 Q n) Q l1 r25 μ30))))))))
def wX12_readLaw (μ : km_S) (Q : km_S → Prop) : Prop := wX12_step μ fun μ31 => ∃ j, wX12_readLaw_6 (wX12_readLaw_147 Q) Q j 0 μ31
set_option maxRecDepth 100000 in
set_option maxHeartbeats 4000000 in
theorem tX12_readLaw_144 (l : Launch) (G : km_G) {p : Program} {e : Env} {s : State} {m : MethodId} {args : Array Value} {below : List Frame} {meth : Method} {c : Code} (F : CallFix p m c cX12_readLaw 3 s args kt_ RX12) (hr : meth.sig.returnType = none) (hlocks : meth.locks = false) (Q : km_S → Prop) (k6 : Int32 → km_S → Prop) (hk6 : ∀ (l1 : Int32) (μ : km_S) (H : Heap) (locs : List Loc) (ls : Array Slot), k6 l1 μ → km_X G s H locs μ → lv_has ls 3 [(0, .ref (G.1 0)), (1, .int l1)] → W p l e { frames := 91, cells := 0, slots := 0, locals := 2003 } s m args below meth c H locs 0 0 (MQ below (km_Qv G Q) args s 0 0 (km_A G)) (F0 m 6 ls [])) : ∀ (l1 : Int32) (μ : km_S) (H : Heap) (locs : List Loc) (ls : Array Slot), wX12_readLaw_144 k6 Q l1 μ → km_X G s H locs μ → lv_has ls 3 [(0, .ref (G.1 0)), (1, .int l1)] → W p l e { frames := 91, cells := 0, slots := 0, locals := 2003 } s m args below meth c H locs 0 0 (MQ below (km_Qv G Q) args s 0 0 (km_A G)) (F0 m 144 ls []) := by
  intro l1 μ H locs ls h C hl
  refine lv_goto (tgt := 6) F.1 F.2.1 dX12_readLaw_144 (by decide) ?_
  exact hk6 l1 μ H locs ls h C (lv_sub hl [0, 1] rfl)
set_option maxRecDepth 100000 in
set_option maxHeartbeats 4000000 in
theorem tX12_readLaw_133 (l : Launch) (G : km_G) {p : Program} {e : Env} {s : State} {m : MethodId} {args : Array Value} {below : List Frame} {meth : Method} {c : Code} (F : CallFix p m c cX12_readLaw 3 s args kt_ RX12) (hr : meth.sig.returnType = none) (hlocks : meth.locks = false) (Q : km_S → Prop) (k6 : Int32 → km_S → Prop) (hk6 : ∀ (l1 : Int32) (μ : km_S) (H : Heap) (locs : List Loc) (ls : Array Slot), k6 l1 μ → km_X G s H locs μ → lv_has ls 3 [(0, .ref (G.1 0)), (1, .int l1)] → W p l e { frames := 91, cells := 0, slots := 0, locals := 2003 } s m args below meth c H locs 0 0 (MQ below (km_Qv G Q) args s 0 0 (km_A G)) (F0 m 6 ls [])) : ∀ (l1 : Int32) (μ : km_S) (H : Heap) (locs : List Loc) (ls : Array Slot), wX12_readLaw_133 k6 Q l1 μ → km_X G s H locs μ → lv_has ls 3 [(0, .ref (G.1 0)), (1, .int l1)] → W p l e { frames := 91, cells := 0, slots := 0, locals := 2003 } s m args below meth c H locs 0 0 (MQ below (km_Qv G Q) args s 0 0 (km_A G)) (F0 m 133 ls []) := by
  intro l1 μ H locs ls h C hl
  refine lv_aload_n F.1 F.2.1 dX12_readLaw_133 rfl (lv_at hl 0 rfl) ?_
  refine kg_bad F C dX12_readLaw_134 ?_
  refine lv_if_ne (tgt := 144) F.1 F.2.1 dX12_readLaw_137 (by decide) (fun c1 => ?_) (fun c1 => ?_)
  · have h := h.1 c1
    exact tX12_readLaw_144 l G F hr hlocks Q k6 hk6 l1 μ H locs ls h C (lv_sub hl [0, 1] rfl)
  · have h := h.2 c1
    refine lv_aload_n F.1 F.2.1 dX12_readLaw_140 rfl (lv_at hl 0 rfl) ?_
    refine kc_X12_step F C h (Nat.le_of_ble_eq_true rfl) (Nat.le_of_ble_eq_true rfl) hl.1 (by simp [Value.category]) dX12_readLaw_141 (fun μ2 H locs h C => ?_)
    exact tX12_readLaw_144 l G F hr hlocks Q k6 hk6 l1 μ2 H locs ls h C (lv_sub hl [0, 1] rfl)
set_option maxRecDepth 100000 in
set_option maxHeartbeats 4000000 in
theorem tX12_readLaw_48 (l : Launch) (G : km_G) {p : Program} {e : Env} {s : State} {m : MethodId} {args : Array Value} {below : List Frame} {meth : Method} {c : Code} (F : CallFix p m c cX12_readLaw 3 s args kt_ RX12) (hr : meth.sig.returnType = none) (hlocks : meth.locks = false) (Q : km_S → Prop) (k59 : Int32 → Int32 → km_S → Prop) (hk59 : ∀ (l1 : Int32) (l2 : Int32) (μ : km_S) (H : Heap) (locs : List Loc) (ls : Array Slot), k59 l1 l2 μ → km_X G s H locs μ → lv_has ls 3 [(0, .ref (G.1 0)), (1, .int l1), (2, .int l2)] → W p l e { frames := 91, cells := 0, slots := 0, locals := 2003 } s m args below meth c H locs 0 0 (MQ below (km_Qv G Q) args s 0 0 (km_A G)) (F0 m 59 ls [])) : ∀ (l1 : Int32) (l2 : Int32) (μ : km_S) (H : Heap) (locs : List Loc) (ls : Array Slot), wX12_readLaw_48 k59 Q l1 l2 μ → km_X G s H locs μ → lv_has ls 3 [(0, .ref (G.1 0)), (1, .int l1), (2, .int l2)] → W p l e { frames := 91, cells := 0, slots := 0, locals := 2003 } s m args below meth c H locs 0 0 (MQ below (km_Qv G Q) args s 0 0 (km_A G)) (F0 m 48 ls []) := by
  intro l1 l2 μ H locs ls h C hl
  refine lv_iload_n F.1 F.2.1 dX12_readLaw_48 rfl (lv_at hl 1 rfl) ?_
  refine lv_bipush (v := 12) F.1 F.2.1 dX12_readLaw_49 (by decide) ?_
  refine lv_icmp_ne (tgt := 59) F.1 F.2.1 dX12_readLaw_51 (by decide) (fun c3 => ?_) (fun c3 => ?_)
  · have h := h.1 c3
    exact hk59 l1 l2 μ H locs ls h C (lv_sub hl [0, 1, 2] rfl)
  · have h := h.2 c3
    refine lv_aload_n F.1 F.2.1 dX12_readLaw_54 rfl (lv_at hl 0 rfl) ?_
    refine lv_iconst (v := 2) F.1 F.2.1 dX12_readLaw_55 (by decide) ?_
    refine kc_X12_wrong F C h (Nat.le_of_ble_eq_true rfl) (Nat.le_of_ble_eq_true rfl) hl.1 (by simp [Value.category]) dX12_readLaw_56 (fun μ4 H locs h C => ?_)
    exact hk59 l1 l2 μ4 H locs ls h C (lv_sub hl [0, 1, 2] rfl)
set_option maxRecDepth 100000 in
set_option maxHeartbeats 4000000 in
theorem tX12_readLaw_147 (l : Launch) (G : km_G) {p : Program} {e : Env} {s : State} {m : MethodId} {args : Array Value} {below : List Frame} {meth : Method} {c : Code} (F : CallFix p m c cX12_readLaw 3 s args kt_ RX12) (hr : meth.sig.returnType = none) (hlocks : meth.locks = false) (Q : km_S → Prop) : ∀ (l1 : Int32) (μ : km_S) (H : Heap) (locs : List Loc) (ls : Array Slot), wX12_readLaw_147 Q l1 μ → km_X G s H locs μ → lv_has ls 3 [(0, .ref (G.1 0)), (1, .int l1)] → W p l e { frames := 91, cells := 0, slots := 0, locals := 2003 } s m args below meth c H locs 0 0 (MQ below (km_Qv G Q) args s 0 0 (km_A G)) (F0 m 147 ls []) := by
  intro l1 μ H locs ls h C hl
  refine lv_aload_n F.1 F.2.1 dX12_readLaw_147 rfl (lv_at hl 0 rfl) ?_
  refine kg_ruleFrom F C dX12_readLaw_148 ?_
  refine lv_bipush (v := 13) F.1 F.2.1 dX12_readLaw_151 (by decide) ?_
  refine lv_aload_n F.1 F.2.1 dX12_readLaw_153 rfl (lv_at hl 0 rfl) ?_
  refine kg_laws F C dX12_readLaw_154 ?_
  refine lv_imul (x := 13) (y := km_i μ 5) F.1 F.2.1 dX12_readLaw_157 ?_
  refine lv_iload_n F.1 F.2.1 dX12_readLaw_158 rfl (lv_at hl 1 rfl) ?_
  refine lv_iadd (x := 13 * (km_i μ 5)) (y := l1) F.1 F.2.1 dX12_readLaw_159 ?_
  refine lv_aload_n F.1 F.2.1 dX12_readLaw_160 rfl (lv_at hl 0 rfl) ?_
  refine kg_codes F C dX12_readLaw_161 ?_
  obtain ⟨hn5, h⟩ := h
  refine kq_ruleFrom F C hn5 dX12_readLaw_164 (fun H locs C => ?_)
  generalize eμ6 : km_sa μ 55 ((13 * (km_i μ 5)) + l1).toNatClampNeg (km_i μ 59) = μ6 at C
  have h := h μ6 eμ6.symm
  refine lv_aload_n F.1 F.2.1 dX12_readLaw_165 rfl (lv_at hl 0 rfl) ?_
  refine kg_ruleMany F C dX12_readLaw_166 ?_
  refine lv_aload_n F.1 F.2.1 dX12_readLaw_169 rfl (lv_at hl 0 rfl) ?_
  refine kg_laws F C dX12_readLaw_170 ?_
  refine lv_iload_n F.1 F.2.1 dX12_readLaw_173 rfl (lv_at hl 1 rfl) ?_
  obtain ⟨hn7, h⟩ := h
  refine kq_ruleMany F C hn7 dX12_readLaw_174 (fun H locs C => ?_)
  generalize eμ8 : km_sa μ6 54 (km_i μ6 5).toNatClampNeg l1 = μ8 at C
  have h := h μ8 eμ8.symm
  exact km_vret F C hr hlocks h dX12_readLaw_175
set_option maxRecDepth 100000 in
set_option maxHeartbeats 4000000 in
theorem tX12_readLaw_59 (l : Launch) (G : km_G) {p : Program} {e : Env} {s : State} {m : MethodId} {args : Array Value} {below : List Frame} {meth : Method} {c : Code} (F : CallFix p m c cX12_readLaw 3 s args kt_ RX12) (hr : meth.sig.returnType = none) (hlocks : meth.locks = false) (Q : km_S → Prop) (k6 : Int32 → km_S → Prop) (hk6 : ∀ (l1 : Int32) (μ : km_S) (H : Heap) (locs : List Loc) (ls : Array Slot), k6 l1 μ → km_X G s H locs μ → lv_has ls 3 [(0, .ref (G.1 0)), (1, .int l1)] → W p l e { frames := 91, cells := 0, slots := 0, locals := 2003 } s m args below meth c H locs 0 0 (MQ below (km_Qv G Q) args s 0 0 (km_A G)) (F0 m 6 ls [])) : ∀ (l1 : Int32) (l2 : Int32) (μ : km_S) (H : Heap) (locs : List Loc) (ls : Array Slot), wX12_readLaw_59 k6 Q l1 l2 μ → km_X G s H locs μ → lv_has ls 3 [(0, .ref (G.1 0)), (1, .int l1), (2, .int l2)] → W p l e { frames := 91, cells := 0, slots := 0, locals := 2003 } s m args below meth c H locs 0 0 (MQ below (km_Qv G Q) args s 0 0 (km_A G)) (F0 m 59 ls []) := by
  intro l1 l2 μ H locs ls h C hl
  refine lv_aload_n F.1 F.2.1 dX12_readLaw_59 rfl (lv_at hl 0 rfl) ?_
  refine kg_bad F C dX12_readLaw_60 ?_
  refine lv_if_eq (tgt := 67) F.1 F.2.1 dX12_readLaw_63 (by decide) (fun c9 => ?_) (fun c9 => ?_)
  · have h := h.1 c9
    refine lv_aload_n F.1 F.2.1 dX12_readLaw_67 rfl (lv_at hl 0 rfl) ?_
    refine kg_isToll F C dX12_readLaw_68 ?_
    refine lv_bipush (v := 12) F.1 F.2.1 dX12_readLaw_71 (by decide) ?_
    refine lv_aload_n F.1 F.2.1 dX12_readLaw_73 rfl (lv_at hl 0 rfl) ?_
    refine kg_laws F C dX12_readLaw_74 ?_
    refine lv_imul (x := 12) (y := km_i μ 5) F.1 F.2.1 dX12_readLaw_77 ?_
    refine lv_iload_n F.1 F.2.1 dX12_readLaw_78 rfl (lv_at hl 1 rfl) ?_
    refine lv_iadd (x := 12 * (km_i μ 5)) (y := l1) F.1 F.2.1 dX12_readLaw_79 ?_
    refine lv_iload_n F.1 F.2.1 dX12_readLaw_80 rfl (lv_at hl 2 rfl) ?_
    obtain ⟨hn10, h⟩ := h
    refine kq_isToll F C hn10 dX12_readLaw_81 (fun H locs C => ?_)
    generalize eμ11 : km_sa μ 58 ((12 * (km_i μ 5)) + l1).toNatClampNeg (vp_nar .boolean l2) = μ11 at C
    have h := h μ11 eμ11.symm
    refine lv_aload_n F.1 F.2.1 dX12_readLaw_82 rfl (lv_at hl 0 rfl) ?_
    refine kg_ruleFrom F C dX12_readLaw_83 ?_
    refine lv_bipush (v := 13) F.1 F.2.1 dX12_readLaw_86 (by decide) ?_
    refine lv_aload_n F.1 F.2.1 dX12_readLaw_88 rfl (lv_at hl 0 rfl) ?_
    refine kg_laws F C dX12_readLaw_89 ?_
    refine lv_imul (x := 13) (y := km_i μ11 5) F.1 F.2.1 dX12_readLaw_92 ?_
    refine lv_iload_n F.1 F.2.1 dX12_readLaw_93 rfl (lv_at hl 1 rfl) ?_
    refine lv_iadd (x := 13 * (km_i μ11 5)) (y := l1) F.1 F.2.1 dX12_readLaw_94 ?_
    refine lv_aload_n F.1 F.2.1 dX12_readLaw_95 rfl (lv_at hl 0 rfl) ?_
    refine kg_codes F C dX12_readLaw_96 ?_
    obtain ⟨hn12, h⟩ := h
    refine kq_ruleFrom F C hn12 dX12_readLaw_99 (fun H locs C => ?_)
    generalize eμ13 : km_sa μ11 55 ((13 * (km_i μ11 5)) + l1).toNatClampNeg (km_i μ11 59) = μ13 at C
    have h := h μ13 eμ13.symm
    obtain ⟨v14, ev14⟩ : ∃ z9 : Int32, z9 = l1 + 1 := ⟨_, rfl⟩
    have h := h v14 ev14
    refine lv_iinc (v := v14) (lv' := [(1, .int v14), (0, .ref (G.1 0)), (2, .int l2)]) F.1 F.2.1 dX12_readLaw_100 hl (k := 1) rfl (by rw [ev14]; rfl) (by decide) rfl (fun ls hl => ?_)
    refine lv_aload_n F.1 F.2.1 dX12_readLaw_103 rfl (lv_at hl 1 rfl) ?_
    refine kc_X12_step F C h (Nat.le_of_ble_eq_true rfl) (Nat.le_of_ble_eq_true rfl) hl.1 (by simp [Value.category]) dX12_readLaw_104 (fun μ15 H locs h C => ?_)
    refine lv_aload_n F.1 F.2.1 dX12_readLaw_107 rfl (lv_at hl 1 rfl) ?_
    refine lv_iconst (v := 0) F.1 F.2.1 dX12_readLaw_108 (by decide) ?_
    refine kc_X12_readExpression F C h (Nat.le_of_ble_eq_true rfl) (Nat.le_of_ble_eq_true rfl) hl.1 (by simp [Value.category]) dX12_readLaw_109 (fun μ16 H locs h C => ?_)
    refine lv_aload_n F.1 F.2.1 dX12_readLaw_112 rfl (lv_at hl 1 rfl) ?_
    refine kg_bad F C dX12_readLaw_113 ?_
    refine lv_if_ne (tgt := 133) F.1 F.2.1 dX12_readLaw_116 (by decide) (fun c17 => ?_) (fun c17 => ?_)
    · have h := h.1 c17
      exact tX12_readLaw_133 l G F hr hlocks Q k6 hk6 v14 μ16 H locs ls h C (lv_sub hl [1, 0] rfl)
    · have h := h.2 c17
      refine lv_aload_n F.1 F.2.1 dX12_readLaw_119 rfl (lv_at hl 1 rfl) ?_
      refine lv_bipush (v := 59) F.1 F.2.1 dX12_readLaw_120 (by decide) ?_
      refine kc_X12_isSign F C h (Nat.le_of_ble_eq_true rfl) (Nat.le_of_ble_eq_true rfl) hl.1 (by simp [Value.category]) dX12_readLaw_122 (fun r19 μ18 H locs h C => ?_)
      refine lv_if_ne (tgt := 133) F.1 F.2.1 dX12_readLaw_125 (by decide) (fun c20 => ?_) (fun c20 => ?_)
      · have h := h.1 c20
        exact tX12_readLaw_133 l G F hr hlocks Q k6 hk6 v14 μ18 H locs ls h C (lv_sub hl [1, 0] rfl)
      · have h := h.2 c20
        refine lv_aload_n F.1 F.2.1 dX12_readLaw_128 rfl (lv_at hl 1 rfl) ?_
        refine lv_iconst (v := 1) F.1 F.2.1 dX12_readLaw_129 (by decide) ?_
        refine kc_X12_wrong F C h (Nat.le_of_ble_eq_true rfl) (Nat.le_of_ble_eq_true rfl) hl.1 (by simp [Value.category]) dX12_readLaw_130 (fun μ21 H locs h C => ?_)
        exact tX12_readLaw_133 l G F hr hlocks Q k6 hk6 v14 μ21 H locs ls h C (lv_sub hl [1, 0] rfl)
  · have h := h.2 c9
    exact km_vret F C hr hlocks h dX12_readLaw_66
set_option maxRecDepth 100000 in
set_option maxHeartbeats 4000000 in
theorem tX12_readLaw_6 (l : Launch) (G : km_G) {p : Program} {e : Env} {s : State} {m : MethodId} {args : Array Value} {below : List Frame} {meth : Method} {c : Code} (F : CallFix p m c cX12_readLaw 3 s args kt_ RX12) (hr : meth.sig.returnType = none) (hlocks : meth.locks = false) (Q : km_S → Prop) (k147 : Int32 → km_S → Prop) (hk147 : ∀ (l1 : Int32) (μ : km_S) (H : Heap) (locs : List Loc) (ls : Array Slot), k147 l1 μ → km_X G s H locs μ → lv_has ls 3 [(0, .ref (G.1 0)), (1, .int l1)] → W p l e { frames := 91, cells := 0, slots := 0, locals := 2003 } s m args below meth c H locs 0 0 (MQ below (km_Qv G Q) args s 0 0 (km_A G)) (F0 m 147 ls [])) : ∀ (n : Nat) (l1 : Int32) (μ : km_S) (H : Heap) (locs : List Loc) (ls : Array Slot), wX12_readLaw_6 k147 Q n l1 μ → km_X G s H locs μ → lv_has ls 3 [(0, .ref (G.1 0)), (1, .int l1)] → W p l e { frames := 91, cells := 0, slots := 0, locals := 2003 } s m args below meth c H locs 0 0 (MQ below (km_Qv G Q) args s 0 0 (km_A G)) (F0 m 6 ls []) := by
  intro n
  induction n with
  | zero => intro l1 μ H locs ls h; exact h.elim
  | succ n ih =>
    intro l1 μ H locs ls h C hl
    refine lv_aload_n F.1 F.2.1 dX12_readLaw_6 rfl (lv_at hl 0 rfl) ?_
    refine kg_bad F C dX12_readLaw_7 ?_
    refine lv_if_ne (tgt := 147) F.1 F.2.1 dX12_readLaw_10 (by decide) (fun c22 => ?_) (fun c22 => ?_)
    · have h := h.1 c22
      exact hk147 l1 μ H locs ls h C (lv_sub hl [0, 1] rfl)
    · have h := h.2 c22
      refine lv_aload_n F.1 F.2.1 dX12_readLaw_13 rfl (lv_at hl 0 rfl) ?_
      refine kg_token F C dX12_readLaw_14 ?_
      refine lv_if_eq (tgt := 147) F.1 F.2.1 dX12_readLaw_17 (by decide) (fun c23 => ?_) (fun c23 => ?_)
      · have h := h.1 c23
        exact hk147 l1 μ H locs ls h C (lv_sub hl [0, 1] rfl)
      · have h := h.2 c23
        refine lv_aload_n F.1 F.2.1 dX12_readLaw_20 rfl (lv_at hl 0 rfl) ?_
        refine va_ldcS F.1 F.2.1 F.2.2.2.1 C.2.2.2.2.2.1 dX12_readLaw_21 ?_
        refine kc_X12_isWord F C h (Nat.le_of_ble_eq_true rfl) (Nat.le_of_ble_eq_true rfl) hl.1 (by simp [Value.category]) dX12_readLaw_23 (fun r25 μ24 H locs h C => ?_)
        refine lv_istore_n (lv' := [(2, .int r25), (0, .ref (G.1 0)), (1, .int l1)]) F.1 F.2.1 dX12_readLaw_26 rfl hl (by decide) rfl (fun ls hl => ?_)
        refine lv_iload_n F.1 F.2.1 dX12_readLaw_27 rfl (lv_at hl 0 rfl) ?_
        refine lv_if_ne (tgt := 48) F.1 F.2.1 dX12_readLaw_28 (by decide) (fun c26 => ?_) (fun c26 => ?_)
        · have h := h.1 c26
          exact tX12_readLaw_48 l G F hr hlocks Q (wX12_readLaw_59 (wX12_readLaw_6 k147 Q n) Q) (tX12_readLaw_59 l G F hr hlocks Q (wX12_readLaw_6 k147 Q n) (fun l1 μ9 H locs ls h C hl => ih l1 μ9 H locs ls h C hl)) l1 r25 μ24 H locs ls h C (lv_sub hl [1, 2, 0] rfl)
        · have h := h.2 c26
          refine lv_aload_n F.1 F.2.1 dX12_readLaw_31 rfl (lv_at hl 1 rfl) ?_
          refine va_ldcS F.1 F.2.1 F.2.2.2.1 C.2.2.2.2.2.2.1 dX12_readLaw_32 ?_
          refine kc_X12_isWord F C h (Nat.le_of_ble_eq_true rfl) (Nat.le_of_ble_eq_true rfl) hl.1 (by simp [Value.category]) dX12_readLaw_34 (fun r28 μ27 H locs h C => ?_)
          refine lv_if_ne (tgt := 48) F.1 F.2.1 dX12_readLaw_37 (by decide) (fun c29 => ?_) (fun c29 => ?_)
          · have h := h.1 c29
            exact tX12_readLaw_48 l G F hr hlocks Q (wX12_readLaw_59 (wX12_readLaw_6 k147 Q n) Q) (tX12_readLaw_59 l G F hr hlocks Q (wX12_readLaw_6 k147 Q n) (fun l1 μ9 H locs ls h C hl => ih l1 μ9 H locs ls h C hl)) l1 r25 μ27 H locs ls h C (lv_sub hl [1, 2, 0] rfl)
          · have h := h.2 c29
            refine lv_aload_n F.1 F.2.1 dX12_readLaw_40 rfl (lv_at hl 1 rfl) ?_
            refine lv_iconst (v := 1) F.1 F.2.1 dX12_readLaw_41 (by decide) ?_
            refine kc_X12_wrong F C h (Nat.le_of_ble_eq_true rfl) (Nat.le_of_ble_eq_true rfl) hl.1 (by simp [Value.category]) dX12_readLaw_42 (fun μ30 H locs h C => ?_)
            refine lv_goto (tgt := 59) F.1 F.2.1 dX12_readLaw_45 (by decide) ?_
            exact tX12_readLaw_59 l G F hr hlocks Q (wX12_readLaw_6 k147 Q n) (fun l1 μ9 H locs ls h C hl => ih l1 μ9 H locs ls h C hl) l1 r25 μ30 H locs ls h C (lv_sub hl [1, 2, 0] rfl)
set_option maxRecDepth 100000 in
set_option maxHeartbeats 4000000 in
theorem hc_X12_readLaw (l : Launch) (G : km_G) (μ : km_S) (Q : km_S → Prop) (h : wX12_readLaw μ Q) : km_M l G yX12_readLaw cX12_readLaw 3 none (91) (2003) [.ref (G.1 0)] μ (km_Qv G Q) := by
  refine km_enter (by decide) rfl (Nat.le_of_ble_eq_true rfl) ?_
  intro p e s m below meth c ls F hr hlocks C hl
  have hl : lv_has ls 3 [(0, .ref (G.1 0))] := hl
  obtain ⟨H, eH⟩ : ∃ z9, z9 = s.heap := ⟨_, rfl⟩
  obtain ⟨locs, eL⟩ : ∃ z9 : List Loc, z9 = [] := ⟨_, rfl⟩
  rw [← eH, ← eL] at C
  rw [← eH, ← eL]
  refine lv_aload_n F.1 F.2.1 dX12_readLaw_0 rfl (lv_at hl 0 rfl) ?_
  refine kc_X12_step F C h (Nat.le_of_ble_eq_true rfl) (Nat.le_of_ble_eq_true rfl) hl.1 (by simp [Value.category]) dX12_readLaw_1 (fun μ31 H locs h C => ?_)
  refine lv_iconst (v := 0) F.1 F.2.1 dX12_readLaw_4 (by decide) ?_
  refine lv_istore_n (lv' := [(1, .int 0), (0, .ref (G.1 0))]) F.1 F.2.1 dX12_readLaw_5 rfl hl (by decide) rfl (fun ls hl => ?_)
  obtain ⟨n32, h⟩ := h
  exact tX12_readLaw_6 l G F hr hlocks Q (wX12_readLaw_147 Q) (tX12_readLaw_147 l G F hr hlocks Q) n32 0 μ31 H locs ls h C (lv_sub hl [1, 0] rfl)
section
variable {p : Program} {l : Launch} {e : Env} {R : Room} {s : State} {m : MethodId} {args : Array Value} {below : List Frame} {meth : Method} {c : Code} {H : Heap} {locs : List Loc} {Q : State → Prop}
variable {cc : ByteArray} {pc nL : Nat} {ls : Array Slot} {rest : List Value} {G : km_G} {μ : km_S}
theorem kc_X12_readLaw (F : CallFix p m c cc nL s args kt_ RX12) (C : km_X G s H locs μ) {P : km_S → Prop} (h : wX12_readLaw μ P) (h1 : (91) + 1 ≤ R.frames) (h2 : 8 + (3 + 11) + (2003) ≤ R.locals) (hsz : ls.size = nL) (hW : (rest.map fun v => v.category).sum ≤ 8) (hdg : decode cc pc = .ok (.invokevirtual 286, 3)) (kk : ∀ (μ' : km_S) (H1 : Heap) (locs1 : List Loc), P μ' → km_X G s H1 locs1 μ' → W p l e R s m args below meth c H1 locs1 0 0 Q (F0 m (pc + 3) ls rest)) : W p l e R s m args below meth c H locs 0 0 Q (F0 m pc ls (.ref (G.1 0) :: rest)) :=
  km_cVv (n := 0) (As := []) F C (hc_X12_readLaw l G μ P h) (kt_V tw_280 tw_281 tw_282 tw_151 tw_283) (by decide +kernel) ⟨h1, h2⟩ rfl hsz hW hdg kk
end
theorem dX12_law_0 : decode cX12_law 0 = .ok (.aload_n 0, 1) := by decide +kernel
theorem dX12_law_1 : decode cX12_law 1 = .ok (.iconst 0, 1) := by decide +kernel
theorem dX12_law_2 : decode cX12_law 2 = .ok (.putfield 173, 3) := by decide +kernel
theorem dX12_law_5 : decode cX12_law 5 = .ok (.iload_n 1, 1) := by decide +kernel
theorem dX12_law_6 : decode cX12_law 6 = .ok (.ifCond .lt 22, 3) := by decide +kernel
theorem dX12_law_9 : decode cX12_law 9 = .ok (.iload_n 1, 1) := by decide +kernel
theorem dX12_law_10 : decode cX12_law 10 = .ok (.aload_n 0, 1) := by decide +kernel
theorem dX12_law_11 : decode cX12_law 11 = .ok (.getfield 195, 3) := by decide +kernel
theorem dX12_law_14 : decode cX12_law 14 = .ok (.if_icmp .gt 14, 3) := by decide +kernel
theorem dX12_law_17 : decode cX12_law 17 = .ok (.iload_n 2, 1) := by decide +kernel
theorem dX12_law_18 : decode cX12_law 18 = .ok (.ifCond .lt 10, 3) := by decide +kernel
theorem dX12_law_21 : decode cX12_law 21 = .ok (.iload_n 2, 1) := by decide +kernel
theorem dX12_law_22 : decode cX12_law 22 = .ok (.sipush 1000, 3) := by decide +kernel
theorem dX12_law_25 : decode cX12_law 25 = .ok (.if_icmp .le 8, 3) := by decide +kernel
theorem dX12_law_28 : decode cX12_law 28 = .ok (.aload_n 0, 1) := by decide +kernel
theorem dX12_law_29 : decode cX12_law 29 = .ok (.invokevirtual 183, 3) := by decide +kernel
theorem dX12_law_32 : decode cX12_law 32 = .ok (.ireturn, 1) := by decide +kernel
theorem dX12_law_33 : decode cX12_law 33 = .ok (.aload_n 0, 1) := by decide +kernel
theorem dX12_law_34 : decode cX12_law 34 = .ok (.iconst 0, 1) := by decide +kernel
theorem dX12_law_35 : decode cX12_law 35 = .ok (.putfield 195, 3) := by decide +kernel
theorem dX12_law_38 : decode cX12_law 38 = .ok (.aload_n 0, 1) := by decide +kernel
theorem dX12_law_39 : decode cX12_law 39 = .ok (.iconst (-1), 1) := by decide +kernel
theorem dX12_law_40 : decode cX12_law 40 = .ok (.putfield 29, 3) := by decide +kernel
theorem dX12_law_43 : decode cX12_law 43 = .ok (.aload_n 0, 1) := by decide +kernel
theorem dX12_law_44 : decode cX12_law 44 = .ok (.getfield 238, 3) := by decide +kernel
theorem dX12_law_47 : decode cX12_law 47 = .ok (.bipush 6, 2) := by decide +kernel
theorem dX12_law_49 : decode cX12_law 49 = .ok (.if_icmp .ne 6, 3) := by decide +kernel
theorem dX12_law_52 : decode cX12_law 52 = .ok (.bipush (-9), 2) := by decide +kernel
theorem dX12_law_54 : decode cX12_law 54 = .ok (.ireturn, 1) := by decide +kernel
theorem dX12_law_55 : decode cX12_law 55 = .ok (.aload_n 0, 1) := by decide +kernel
theorem dX12_law_56 : decode cX12_law 56 = .ok (.iload_n 1, 1) := by decide +kernel
theorem dX12_law_57 : decode cX12_law 57 = .ok (.putfield 198, 3) := by decide +kernel
theorem dX12_law_60 : decode cX12_law 60 = .ok (.aload_n 0, 1) := by decide +kernel
theorem dX12_law_61 : decode cX12_law 61 = .ok (.iconst 0, 1) := by decide +kernel
theorem dX12_law_62 : decode cX12_law 62 = .ok (.putfield 201, 3) := by decide +kernel
theorem dX12_law_65 : decode cX12_law 65 = .ok (.aload_n 0, 1) := by decide +kernel
theorem dX12_law_66 : decode cX12_law 66 = .ok (.iconst 0, 1) := by decide +kernel
theorem dX12_law_67 : decode cX12_law 67 = .ok (.putfield 232, 3) := by decide +kernel
theorem dX12_law_70 : decode cX12_law 70 = .ok (.aload_n 0, 1) := by decide +kernel
theorem dX12_law_71 : decode cX12_law 71 = .ok (.iconst 0, 1) := by decide +kernel
theorem dX12_law_72 : decode cX12_law 72 = .ok (.putfield 241, 3) := by decide +kernel
theorem dX12_law_75 : decode cX12_law 75 = .ok (.aload_n 0, 1) := by decide +kernel
theorem dX12_law_76 : decode cX12_law 76 = .ok (.invokevirtual 286, 3) := by decide +kernel
theorem dX12_law_79 : decode cX12_law 79 = .ok (.aload_n 0, 1) := by decide +kernel
theorem dX12_law_80 : decode cX12_law 80 = .ok (.getfield 232, 3) := by decide +kernel
theorem dX12_law_83 : decode cX12_law 83 = .ok (.ifCond .eq 18, 3) := by decide +kernel
theorem dX12_law_86 : decode cX12_law 86 = .ok (.aload_n 0, 1) := by decide +kernel
theorem dX12_law_87 : decode cX12_law 87 = .ok (.aload_n 0, 1) := by decide +kernel
theorem dX12_law_88 : decode cX12_law 88 = .ok (.getfield 235, 3) := by decide +kernel
theorem dX12_law_91 : decode cX12_law 91 = .ok (.putfield 29, 3) := by decide +kernel
theorem dX12_law_94 : decode cX12_law 94 = .ok (.iconst (-1), 1) := by decide +kernel
theorem dX12_law_95 : decode cX12_law 95 = .ok (.aload_n 0, 1) := by decide +kernel
theorem dX12_law_96 : decode cX12_law 96 = .ok (.getfield 232, 3) := by decide +kernel
theorem dX12_law_99 : decode cX12_law 99 = .ok (.isub, 1) := by decide +kernel
theorem dX12_law_100 : decode cX12_law 100 = .ok (.ireturn, 1) := by decide +kernel
theorem dX12_law_101 : decode cX12_law 101 = .ok (.aload_n 0, 1) := by decide +kernel
theorem dX12_law_102 : decode cX12_law 102 = .ok (.getfield 152, 3) := by decide +kernel
theorem dX12_law_105 : decode cX12_law 105 = .ok (.aload_n 0, 1) := by decide +kernel
theorem dX12_law_106 : decode cX12_law 106 = .ok (.getfield 238, 3) := by decide +kernel
theorem dX12_law_109 : decode cX12_law 109 = .ok (.iload_n 2, 1) := by decide +kernel
theorem dX12_law_110 : decode cX12_law 110 = .ok (.iastore, 1) := by decide +kernel
theorem dX12_law_111 : decode cX12_law 111 = .ok (.aload_n 0, 1) := by decide +kernel
theorem dX12_law_112 : decode cX12_law 112 = .ok (.dup, 1) := by decide +kernel
theorem dX12_law_113 : decode cX12_law 113 = .ok (.getfield 238, 3) := by decide +kernel
theorem dX12_law_116 : decode cX12_law 116 = .ok (.iconst 1, 1) := by decide +kernel
theorem dX12_law_117 : decode cX12_law 117 = .ok (.iadd, 1) := by decide +kernel
theorem dX12_law_118 : decode cX12_law 118 = .ok (.putfield 238, 3) := by decide +kernel
theorem dX12_law_121 : decode cX12_law 121 = .ok (.aload_n 0, 1) := by decide +kernel
theorem dX12_law_122 : decode cX12_law 122 = .ok (.getfield 238, 3) := by decide +kernel
theorem dX12_law_125 : decode cX12_law 125 = .ok (.iconst 1, 1) := by decide +kernel
theorem dX12_law_126 : decode cX12_law 126 = .ok (.isub, 1) := by decide +kernel
theorem dX12_law_127 : decode cX12_law 127 = .ok (.ireturn, 1) := by decide +kernel
def wX12_law_28 (Q : Int32 → km_S → Prop) (μ : km_S) : Prop := wX12_fail μ fun r2 μ1 => Q r2 μ1
def wX12_law (l1 : Int32) (l2 : Int32) (μ : km_S) (Q : Int32 → km_S → Prop) : Prop := ∀ μ3, μ3 = km_si μ 1 0 → ((l1 < 0 → wX12_law_28 Q μ3) ∧
  (¬ (l1 < 0) → (((km_i μ3 9) < l1 → wX12_law_28 Q μ3) ∧
    (¬ ((km_i μ3 9) < l1) → ((l2 < 0 → wX12_law_28 Q μ3) ∧
      (¬ (l2 < 0) → ((l2 ≤ 1000 → ∀ μ8, μ8 = km_si μ3 9 0 → ∀ μ9, μ9 = km_si μ8 10 (-1) → ((¬ (km_i μ9 5) = 6 → ∀ μ11, μ11 = km_si μ9 61 l1 → ∀ μ12, μ12 = km_si μ11 60 0 → ∀ μ13, μ13 = km_si μ12 66 0 → ∀ μ14, μ14 = km_si μ13 59 0 → wX12_readLaw μ14 fun μ15 => (((km_i μ15 66) = 0 → vp_in (km_i μ15 5) 6 ∧ ∀ μ18, μ18 = km_sa μ15 53 (km_i μ15 5).toNatClampNeg l2 → ∀ μ19, μ19 = km_si μ18 5 ((km_i μ18 5) + 1) → Q ((km_i μ19 5) - 1) μ19) ∧
            (¬ ((km_i μ15 66) = 0) → ∀ μ20, μ20 = km_si μ15 10 (km_i μ15 67) → Q ((-1) - (km_i μ20 66)) μ20))) ∧
          ((km_i μ9 5) = 6 → Q (-9) μ9))) ∧
        (¬ (l2 ≤ 1000) → wX12_law_28 Q μ3))))))))
set_option maxRecDepth 100000 in
set_option maxHeartbeats 4000000 in
theorem tX12_law_28 (l : Launch) (G : km_G) {p : Program} {e : Env} {s : State} {m : MethodId} {args : Array Value} {below : List Frame} {meth : Method} {c : Code} (F : CallFix p m c cX12_law 3 s args kt_ RX12) (hr : meth.sig.returnType = (some .int)) (hlocks : meth.locks = false) (Q : Int32 → km_S → Prop) : ∀ (μ : km_S) (H : Heap) (locs : List Loc) (ls : Array Slot), wX12_law_28 Q μ → km_X G s H locs μ → lv_has ls 3 [(0, .ref (G.1 0))] → W p l e { frames := 92, cells := 0, slots := 0, locals := 2025 } s m args below meth c H locs 0 0 (MQ below (km_Qi G Q) args s 0 0 (km_A G)) (F0 m 28 ls []) := by
  intro  μ H locs ls h C hl
  refine lv_aload_n F.1 F.2.1 dX12_law_28 rfl (lv_at hl 0 rfl) ?_
  refine kc_X12_fail F C h (Nat.le_of_ble_eq_true rfl) (Nat.le_of_ble_eq_true rfl) hl.1 (by simp [Value.category]) dX12_law_29 (fun r2 μ1 H locs h C => ?_)
  exact km_iret F C hr hlocks h dX12_law_32
set_option maxRecDepth 100000 in
set_option maxHeartbeats 4000000 in
theorem hc_X12_law (l : Launch) (G : km_G) (l1 : Int32) (l2 : Int32) (μ : km_S) (Q : Int32 → km_S → Prop) (h : wX12_law l1 l2 μ Q) : km_M l G yX12_law cX12_law 3 (some .int) (92) (2025) [.ref (G.1 0), .int l1, .int l2] μ (km_Qi G Q) := by
  refine km_enter (by decide) rfl (Nat.le_of_ble_eq_true rfl) ?_
  intro p e s m below meth c ls F hr hlocks C hl
  have hl : lv_has ls 3 [(0, .ref (G.1 0)), (1, .int l1), (2, .int l2)] := hl
  obtain ⟨H, eH⟩ : ∃ z9, z9 = s.heap := ⟨_, rfl⟩
  obtain ⟨locs, eL⟩ : ∃ z9 : List Loc, z9 = [] := ⟨_, rfl⟩
  rw [← eH, ← eL] at C
  rw [← eH, ← eL]
  refine lv_aload_n F.1 F.2.1 dX12_law_0 rfl (lv_at hl 0 rfl) ?_
  refine lv_iconst (v := 0) F.1 F.2.1 dX12_law_1 (by decide) ?_
  refine kp_code F C dX12_law_2 (fun H locs C => ?_)
  generalize eμ3 : km_si μ 1 0 = μ3 at C
  have h := h μ3 eμ3.symm
  refine lv_iload_n F.1 F.2.1 dX12_law_5 rfl (lv_at hl 1 rfl) ?_
  refine lv_if_lt (tgt := 28) F.1 F.2.1 dX12_law_6 (by decide) (fun c4 => ?_) (fun c4 => ?_)
  · have h := h.1 c4
    exact tX12_law_28 l G F hr hlocks Q μ3 H locs ls h C (lv_sub hl [0] rfl)
  · have h := h.2 c4
    refine lv_iload_n F.1 F.2.1 dX12_law_9 rfl (lv_at hl 1 rfl) ?_
    refine lv_aload_n F.1 F.2.1 dX12_law_10 rfl (lv_at hl 0 rfl) ?_
    refine kg_taped F C dX12_law_11 ?_
    refine lv_icmp_gt (tgt := 28) F.1 F.2.1 dX12_law_14 (by decide) (fun c5 => ?_) (fun c5 => ?_)
    · have h := h.1 c5
      exact tX12_law_28 l G F hr hlocks Q μ3 H locs ls h C (lv_sub hl [0] rfl)
    · have h := h.2 c5
      refine lv_iload_n F.1 F.2.1 dX12_law_17 rfl (lv_at hl 2 rfl) ?_
      refine lv_if_lt (tgt := 28) F.1 F.2.1 dX12_law_18 (by decide) (fun c6 => ?_) (fun c6 => ?_)
      · have h := h.1 c6
        exact tX12_law_28 l G F hr hlocks Q μ3 H locs ls h C (lv_sub hl [0] rfl)
      · have h := h.2 c6
        refine lv_iload_n F.1 F.2.1 dX12_law_21 rfl (lv_at hl 2 rfl) ?_
        refine lv_sipush (v := 1000) F.1 F.2.1 dX12_law_22 (by decide) ?_
        refine lv_icmp_le (tgt := 33) F.1 F.2.1 dX12_law_25 (by decide) (fun c7 => ?_) (fun c7 => ?_)
        · have h := h.1 c7
          refine lv_aload_n F.1 F.2.1 dX12_law_33 rfl (lv_at hl 0 rfl) ?_
          refine lv_iconst (v := 0) F.1 F.2.1 dX12_law_34 (by decide) ?_
          refine kp_taped F C dX12_law_35 (fun H locs C => ?_)
          generalize eμ8 : km_si μ3 9 0 = μ8 at C
          have h := h μ8 eμ8.symm
          refine lv_aload_n F.1 F.2.1 dX12_law_38 rfl (lv_at hl 0 rfl) ?_
          refine lv_iconst (v := (-1)) F.1 F.2.1 dX12_law_39 (by decide) ?_
          refine kp_faultPlace F C dX12_law_40 (fun H locs C => ?_)
          generalize eμ9 : km_si μ8 10 (-1) = μ9 at C
          have h := h μ9 eμ9.symm
          refine lv_aload_n F.1 F.2.1 dX12_law_43 rfl (lv_at hl 0 rfl) ?_
          refine kg_laws F C dX12_law_44 ?_
          refine lv_bipush (v := 6) F.1 F.2.1 dX12_law_47 (by decide) ?_
          refine lv_icmp_ne (tgt := 55) F.1 F.2.1 dX12_law_49 (by decide) (fun c10 => ?_) (fun c10 => ?_)
          · have h := h.1 c10
            refine lv_aload_n F.1 F.2.1 dX12_law_55 rfl (lv_at hl 0 rfl) ?_
            refine lv_iload_n F.1 F.2.1 dX12_law_56 rfl (lv_at hl 1 rfl) ?_
            refine kp_read F C dX12_law_57 (fun H locs C => ?_)
            generalize eμ11 : km_si μ9 61 l1 = μ11 at C
            have h := h μ11 eμ11.symm
            refine lv_aload_n F.1 F.2.1 dX12_law_60 rfl (lv_at hl 0 rfl) ?_
            refine lv_iconst (v := 0) F.1 F.2.1 dX12_law_61 (by decide) ?_
            refine kp_at F C dX12_law_62 (fun H locs C => ?_)
            generalize eμ12 : km_si μ11 60 0 = μ12 at C
            have h := h μ12 eμ12.symm
            refine lv_aload_n F.1 F.2.1 dX12_law_65 rfl (lv_at hl 0 rfl) ?_
            refine lv_iconst (v := 0) F.1 F.2.1 dX12_law_66 (by decide) ?_
            refine kp_bad F C dX12_law_67 (fun H locs C => ?_)
            generalize eμ13 : km_si μ12 66 0 = μ13 at C
            have h := h μ13 eμ13.symm
            refine lv_aload_n F.1 F.2.1 dX12_law_70 rfl (lv_at hl 0 rfl) ?_
            refine lv_iconst (v := 0) F.1 F.2.1 dX12_law_71 (by decide) ?_
            refine kp_codes F C dX12_law_72 (fun H locs C => ?_)
            generalize eμ14 : km_si μ13 59 0 = μ14 at C
            have h := h μ14 eμ14.symm
            refine lv_aload_n F.1 F.2.1 dX12_law_75 rfl (lv_at hl 0 rfl) ?_
            refine kc_X12_readLaw F C h (Nat.le_of_ble_eq_true rfl) (Nat.le_of_ble_eq_true rfl) hl.1 (by simp [Value.category]) dX12_law_76 (fun μ15 H locs h C => ?_)
            refine lv_aload_n F.1 F.2.1 dX12_law_79 rfl (lv_at hl 0 rfl) ?_
            refine kg_bad F C dX12_law_80 ?_
            refine lv_if_eq (tgt := 101) F.1 F.2.1 dX12_law_83 (by decide) (fun c16 => ?_) (fun c16 => ?_)
            · have h := h.1 c16
              refine lv_aload_n F.1 F.2.1 dX12_law_101 rfl (lv_at hl 0 rfl) ?_
              refine kg_lawDay F C dX12_law_102 ?_
              refine lv_aload_n F.1 F.2.1 dX12_law_105 rfl (lv_at hl 0 rfl) ?_
              refine kg_laws F C dX12_law_106 ?_
              refine lv_iload_n F.1 F.2.1 dX12_law_109 rfl (lv_at hl 2 rfl) ?_
              obtain ⟨hn17, h⟩ := h
              refine kq_lawDay F C hn17 dX12_law_110 (fun H locs C => ?_)
              generalize eμ18 : km_sa μ15 53 (km_i μ15 5).toNatClampNeg l2 = μ18 at C
              have h := h μ18 eμ18.symm
              refine lv_aload_n F.1 F.2.1 dX12_law_111 rfl (lv_at hl 0 rfl) ?_
              refine lv_dup F.1 F.2.1 dX12_law_112 rfl ?_
              refine kg_laws F C dX12_law_113 ?_
              refine lv_iconst (v := 1) F.1 F.2.1 dX12_law_116 (by decide) ?_
              refine lv_iadd (x := km_i μ18 5) (y := 1) F.1 F.2.1 dX12_law_117 ?_
              refine kp_laws F C dX12_law_118 (fun H locs C => ?_)
              generalize eμ19 : km_si μ18 5 ((km_i μ18 5) + 1) = μ19 at C
              have h := h μ19 eμ19.symm
              refine lv_aload_n F.1 F.2.1 dX12_law_121 rfl (lv_at hl 0 rfl) ?_
              refine kg_laws F C dX12_law_122 ?_
              refine lv_iconst (v := 1) F.1 F.2.1 dX12_law_125 (by decide) ?_
              refine lv_isub (x := km_i μ19 5) (y := 1) F.1 F.2.1 dX12_law_126 ?_
              exact km_iret F C hr hlocks h dX12_law_127
            · have h := h.2 c16
              refine lv_aload_n F.1 F.2.1 dX12_law_86 rfl (lv_at hl 0 rfl) ?_
              refine lv_aload_n F.1 F.2.1 dX12_law_87 rfl (lv_at hl 0 rfl) ?_
              refine kg_badPlace F C dX12_law_88 ?_
              refine kp_faultPlace F C dX12_law_91 (fun H locs C => ?_)
              generalize eμ20 : km_si μ15 10 (km_i μ15 67) = μ20 at C
              have h := h μ20 eμ20.symm
              refine lv_iconst (v := (-1)) F.1 F.2.1 dX12_law_94 (by decide) ?_
              refine lv_aload_n F.1 F.2.1 dX12_law_95 rfl (lv_at hl 0 rfl) ?_
              refine kg_bad F C dX12_law_96 ?_
              refine lv_isub (x := (-1)) (y := km_i μ20 66) F.1 F.2.1 dX12_law_99 ?_
              exact km_iret F C hr hlocks h dX12_law_100
          · have h := h.2 c10
            refine lv_bipush (v := (-9)) F.1 F.2.1 dX12_law_52 (by decide) ?_
            exact km_iret F C hr hlocks h dX12_law_54
        · have h := h.2 c7
          exact tX12_law_28 l G F hr hlocks Q μ3 H locs ls h C (lv_sub hl [0] rfl)
section
variable {p : Program} {l : Launch} {e : Env} {R : Room} {s : State} {m : MethodId} {args : Array Value} {below : List Frame} {meth : Method} {c : Code} {H : Heap} {locs : List Loc} {Q : State → Prop}
variable {cc : ByteArray} {pc nL : Nat} {ls : Array Slot} {rest : List Value} {G : km_G} {μ : km_S}
end

/-! the law's cases -/
theorem yZ_x {k : Nat} {s : sz_T} {L O : Nat} {σ : kx_S} (Z : yZ_ k s L O σ) : xt σ L = 13 := by
  obtain ⟨g, κ, B, n, e, eO, J, _⟩ := Z
  rw [← e]
  exact yg0 J
theorem yZ_out {k : Nat} {s : sz_T} {L O : Nat} {σ : kx_S} (Z : yZ_ k s L O σ) : (xt σ O = 21 ∧ 1 ≤ xn σ O) ∧ ∀ v : Int64, yZ_ k s L O (xsal σ O (Int32.toNatClampNeg 0) v) := by
  obtain ⟨g, κ, B, n, e, eO, J, hn, hB⟩ := Z
  subst eO
  exact ⟨yg10 J, fun v => ⟨g, κ, B, n, e, rfl, yI_sal J, hn, hB⟩⟩
theorem fC_sal {L a i : Nat} {t : nt_T} {A : fu_T} {σ : kx_S} {v : Int64} (h : fC_ t A L σ) : fC_ t A L (xsal σ a i v) := h
theorem lx_put {σ : kx_S} {o i : Nat} {v w : Int64} (h : v = w) : xal (xsal σ o i v) o i = w := by
  rw [xal_self, h]
  exact pk_uLs
theorem lx_cmp0 (x : Int64) : lg_cmp x x = 0 := by simp [lg_cmp]
section
variable {p : Program} {l : Launch} {e : Env} {s : State} {m : MethodId} {args : Array Value} {below : List Frame} {meth : Method} {c : Code} {H : Heap} {locs : List Loc} {Q : State → Prop}
variable {cc : ByteArray} {pc nL : Nat} {ls : Array Slot} {rest : List Value} {G : kx_G} {M : km_G} {σ : kx_S} {μ : km_S}
theorem lx_lald {a : Nat} {i : Int32} (F : CallFix p m c cc nL s args kt_ RL) (C : lx_C G M s H locs σ μ) (ha : xt σ a = 21) (hin : vp_in i (xn σ a)) (hdg : decode cc pc = .ok (.laload, 1)) (kk : lx_W p l e s m args below meth c H locs σ Q (F0 m (pc + 1) ls (.long (xal σ a i.toNatClampNeg) :: rest))) : lx_W p l e s m args below meth c H locs σ Q (F0 m pc ls (.int i :: .ref a :: rest)) := by
  obtain ⟨L, hL, hP, hD⟩ := C.2.2.1.2
  obtain ⟨j, hj⟩ := va_pl_get (X := []) (f := kx_e G σ) (hL a (by rw [ha]; decide))
  rw [kx_e21 ha] at hj
  exact va_lald F.1 F.2.1 C.2.1.1 hP j 1 hj rfl hin hdg kk
end
theorem uv_1 : Cond.methodLink RL 85 yX11_reach ∈ kt_ := kt_m (kt_t1 _ (List.mem_of_getElem? (i := 199) (by decide +kernel))) (by decide +kernel)
theorem uv_2 : Cond.instanceMethod yX11_reach ∈ kt_ := kt_m (kt_t1 _ (List.mem_of_getElem? (i := 200) (by decide +kernel))) (by decide +kernel)
theorem uv_3 : Cond.selects RX11 yX11_reach yX11_reach ∈ kt_ := kt_m (kt_t1 _ (List.mem_of_getElem? (i := 201) (by decide +kernel))) (by decide +kernel)
theorem uv_4 : Cond.initialized RX11 ∈ kt_ := kt_m (kt_t1 _ (List.mem_of_getElem? (i := 1) (by decide +kernel))) (by decide +kernel)
theorem uv_5 : Cond.code yX11_reach cX11_reach 8 (some .int) ∈ kt_ := kt_m (kt_t1 _ (List.mem_of_getElem? (i := 202) (by decide +kernel))) (by decide +kernel)
theorem uv_6 : Cond.methodLink RL 88 yX12_reach ∈ kt_ := kt_m (kt_t6 _ (List.mem_of_getElem? (i := 130) (by decide +kernel))) (by decide +kernel)
theorem uv_7 : Cond.instanceMethod yX12_reach ∈ kt_ := kt_m (kt_t6 _ (List.mem_of_getElem? (i := 131) (by decide +kernel))) (by decide +kernel)
theorem uv_8 : Cond.selects RX12 yX12_reach yX12_reach ∈ kt_ := kt_m (kt_t6 _ (List.mem_of_getElem? (i := 132) (by decide +kernel))) (by decide +kernel)
theorem uv_9 : Cond.initialized RX12 ∈ kt_ := kt_m (kt_t1 _ (List.mem_of_getElem? (i := 9) (by decide +kernel))) (by decide +kernel)
theorem uv_10 : Cond.code yX12_reach cX12_reach 5 (some .int) ∈ kt_ := kt_m (kt_t6 _ (List.mem_of_getElem? (i := 133) (by decide +kernel))) (by decide +kernel)
theorem uv_11 : Cond.methodLink RL 89 yL_dam ∈ kt_ := kt_m (kt_t2 _ (List.mem_of_getElem? (i := 215) (by decide +kernel))) (by decide +kernel)
theorem uv_12 : Cond.static yL_dam ∈ kt_ := kt_m (kt_t2 _ (List.mem_of_getElem? (i := 216) (by decide +kernel))) (by decide +kernel)
theorem uv_13 : Cond.initialized RL ∈ kt_ := kt_m (kt_t1 _ (List.mem_of_getElem? (i := 0) (by decide +kernel))) (by decide +kernel)
theorem uv_14 : Cond.codeWith yL_dam cL_dam 5 (some .int) [(0, 17, 20, 13)] ∈ kt_ := kt_m (kt_t2 _ (List.mem_of_getElem? (i := 217) (by decide +kernel))) (by decide +kernel)
theorem uv_15 : Cond.methodLink RL 94 yX12_dam ∈ kt_ := kt_m (kt_t6 _ (List.mem_of_getElem? (i := 134) (by decide +kernel))) (by decide +kernel)
theorem uv_16 : Cond.instanceMethod yX12_dam ∈ kt_ := kt_m (kt_t6 _ (List.mem_of_getElem? (i := 135) (by decide +kernel))) (by decide +kernel)
theorem uv_17 : Cond.selects RX12 yX12_dam yX12_dam ∈ kt_ := kt_m (kt_t6 _ (List.mem_of_getElem? (i := 136) (by decide +kernel))) (by decide +kernel)
theorem uv_18 : Cond.code yX12_dam cX12_dam 3 (some .boolean) ∈ kt_ := kt_m (kt_t6 _ (List.mem_of_getElem? (i := 137) (by decide +kernel))) (by decide +kernel)
theorem uv_19 : Cond.methodLink RL 95 yL_gate ∈ kt_ := kt_m (kt_t3 _ (List.mem_of_getElem? (i := 55) (by decide +kernel))) (by decide +kernel)
theorem uv_20 : Cond.static yL_gate ∈ kt_ := kt_m (kt_t3 _ (List.mem_of_getElem? (i := 56) (by decide +kernel))) (by decide +kernel)
theorem uv_21 : Cond.codeWith yL_gate cL_gate 5 (some .int) [(0, 10, 13, 13)] ∈ kt_ := kt_m (kt_t3 _ (List.mem_of_getElem? (i := 57) (by decide +kernel))) (by decide +kernel)
theorem uv_22 : Cond.methodLink RL 97 yX12_gate ∈ kt_ := kt_m (kt_t6 _ (List.mem_of_getElem? (i := 147) (by decide +kernel))) (by decide +kernel)
theorem uv_23 : Cond.instanceMethod yX12_gate ∈ kt_ := kt_m (kt_t6 _ (List.mem_of_getElem? (i := 148) (by decide +kernel))) (by decide +kernel)
theorem uv_24 : Cond.selects RX12 yX12_gate yX12_gate ∈ kt_ := kt_m (kt_t6 _ (List.mem_of_getElem? (i := 149) (by decide +kernel))) (by decide +kernel)
theorem uv_25 : Cond.code yX12_gate cX12_gate 4 (some .int) ∈ kt_ := kt_m (kt_t6 _ (List.mem_of_getElem? (i := 150) (by decide +kernel))) (by decide +kernel)
theorem uv_26 : Cond.methodLink RL 98 yL_melt ∈ kt_ := kt_m (kt_t3 _ (List.mem_of_getElem? (i := 62) (by decide +kernel))) (by decide +kernel)
theorem uv_27 : Cond.static yL_melt ∈ kt_ := kt_m (kt_t3 _ (List.mem_of_getElem? (i := 63) (by decide +kernel))) (by decide +kernel)
theorem uv_28 : Cond.codeWith yL_melt cL_melt 5 (some .int) [(0, 10, 13, 13)] ∈ kt_ := kt_m (kt_t3 _ (List.mem_of_getElem? (i := 64) (by decide +kernel))) (by decide +kernel)
theorem uv_29 : Cond.methodLink RL 100 yX12_melt ∈ kt_ := kt_m (kt_t6 _ (List.mem_of_getElem? (i := 151) (by decide +kernel))) (by decide +kernel)
theorem uv_30 : Cond.instanceMethod yX12_melt ∈ kt_ := kt_m (kt_t6 _ (List.mem_of_getElem? (i := 152) (by decide +kernel))) (by decide +kernel)
theorem uv_31 : Cond.selects RX12 yX12_melt yX12_melt ∈ kt_ := kt_m (kt_t6 _ (List.mem_of_getElem? (i := 153) (by decide +kernel))) (by decide +kernel)
theorem uv_32 : Cond.code yX12_melt cX12_melt 4 (some .int) ∈ kt_ := kt_m (kt_t6 _ (List.mem_of_getElem? (i := 154) (by decide +kernel))) (by decide +kernel)
theorem uv_33 : Cond.methodLink RL 101 yL_boom ∈ kt_ := kt_m (kt_t3 _ (List.mem_of_getElem? (i := 69) (by decide +kernel))) (by decide +kernel)
theorem uv_34 : Cond.static yL_boom ∈ kt_ := kt_m (kt_t3 _ (List.mem_of_getElem? (i := 70) (by decide +kernel))) (by decide +kernel)
theorem uv_35 : Cond.codeWith yL_boom cL_boom 6 (some .int) [(0, 19, 22, 13)] ∈ kt_ := kt_m (kt_t3 _ (List.mem_of_getElem? (i := 71) (by decide +kernel))) (by decide +kernel)
theorem uv_36 : Cond.methodLink RL 104 yX12_boom ∈ kt_ := kt_m (kt_t6 _ (List.mem_of_getElem? (i := 155) (by decide +kernel))) (by decide +kernel)
theorem uv_37 : Cond.instanceMethod yX12_boom ∈ kt_ := kt_m (kt_t6 _ (List.mem_of_getElem? (i := 156) (by decide +kernel))) (by decide +kernel)
theorem uv_38 : Cond.selects RX12 yX12_boom yX12_boom ∈ kt_ := kt_m (kt_t6 _ (List.mem_of_getElem? (i := 157) (by decide +kernel))) (by decide +kernel)
theorem uv_39 : Cond.code yX12_boom cX12_boom 4 (some .boolean) ∈ kt_ := kt_m (kt_t6 _ (List.mem_of_getElem? (i := 158) (by decide +kernel))) (by decide +kernel)
theorem uv_40 : Cond.methodLink RL 105 yL_watch ∈ kt_ := kt_m (kt_t3 _ (List.mem_of_getElem? (i := 101) (by decide +kernel))) (by decide +kernel)
theorem uv_41 : Cond.static yL_watch ∈ kt_ := kt_m (kt_t3 _ (List.mem_of_getElem? (i := 102) (by decide +kernel))) (by decide +kernel)
theorem uv_42 : Cond.codeWith yL_watch cL_watch 5 (some .int) [(0, 17, 20, 13)] ∈ kt_ := kt_m (kt_t3 _ (List.mem_of_getElem? (i := 103) (by decide +kernel))) (by decide +kernel)
theorem uv_43 : Cond.methodLink RL 108 yX12_watch ∈ kt_ := kt_m (kt_t6 _ (List.mem_of_getElem? (i := 160) (by decide +kernel))) (by decide +kernel)
theorem uv_44 : Cond.instanceMethod yX12_watch ∈ kt_ := kt_m (kt_t6 _ (List.mem_of_getElem? (i := 161) (by decide +kernel))) (by decide +kernel)
theorem uv_45 : Cond.selects RX12 yX12_watch yX12_watch ∈ kt_ := kt_m (kt_t6 _ (List.mem_of_getElem? (i := 162) (by decide +kernel))) (by decide +kernel)
theorem uv_46 : Cond.code yX12_watch cX12_watch 4 (some .boolean) ∈ kt_ := kt_m (kt_t6 _ (List.mem_of_getElem? (i := 163) (by decide +kernel))) (by decide +kernel)
theorem uv_47 : Cond.methodLink RL 109 yL_crew ∈ kt_ := kt_m (kt_t3 _ (List.mem_of_getElem? (i := 108) (by decide +kernel))) (by decide +kernel)
theorem uv_48 : Cond.static yL_crew ∈ kt_ := kt_m (kt_t3 _ (List.mem_of_getElem? (i := 109) (by decide +kernel))) (by decide +kernel)
theorem uv_49 : Cond.codeWith yL_crew cL_crew 5 (some .int) [(0, 10, 13, 13)] ∈ kt_ := kt_m (kt_t3 _ (List.mem_of_getElem? (i := 110) (by decide +kernel))) (by decide +kernel)
theorem uv_50 : Cond.methodLink RL 111 yX12_crew ∈ kt_ := kt_m (kt_t6 _ (List.mem_of_getElem? (i := 164) (by decide +kernel))) (by decide +kernel)
theorem uv_51 : Cond.instanceMethod yX12_crew ∈ kt_ := kt_m (kt_t6 _ (List.mem_of_getElem? (i := 165) (by decide +kernel))) (by decide +kernel)
theorem uv_52 : Cond.selects RX12 yX12_crew yX12_crew ∈ kt_ := kt_m (kt_t6 _ (List.mem_of_getElem? (i := 166) (by decide +kernel))) (by decide +kernel)
theorem uv_53 : Cond.code yX12_crew cX12_crew 4 (some .int) ∈ kt_ := kt_m (kt_t6 _ (List.mem_of_getElem? (i := 167) (by decide +kernel))) (by decide +kernel)
theorem uv_54 : Cond.methodLink RL 112 yX11_feed ∈ kt_ := kt_m (kt_t2 _ (List.mem_of_getElem? (i := 147) (by decide +kernel))) (by decide +kernel)
theorem uv_55 : Cond.instanceMethod yX11_feed ∈ kt_ := kt_m (kt_t2 _ (List.mem_of_getElem? (i := 148) (by decide +kernel))) (by decide +kernel)
theorem uv_56 : Cond.selects RX11 yX11_feed yX11_feed ∈ kt_ := kt_m (kt_t2 _ (List.mem_of_getElem? (i := 149) (by decide +kernel))) (by decide +kernel)
theorem uv_57 : Cond.code yX11_feed cX11_feed 6 (some .int) ∈ kt_ := kt_m (kt_t2 _ (List.mem_of_getElem? (i := 150) (by decide +kernel))) (by decide +kernel)
theorem uv_58 : Cond.methodLink RL 116 yX12_feed ∈ kt_ := kt_m (kt_t6 _ (List.mem_of_getElem? (i := 168) (by decide +kernel))) (by decide +kernel)
theorem uv_59 : Cond.instanceMethod yX12_feed ∈ kt_ := kt_m (kt_t6 _ (List.mem_of_getElem? (i := 169) (by decide +kernel))) (by decide +kernel)
theorem uv_60 : Cond.selects RX12 yX12_feed yX12_feed ∈ kt_ := kt_m (kt_t6 _ (List.mem_of_getElem? (i := 170) (by decide +kernel))) (by decide +kernel)
theorem uv_61 : Cond.code yX12_feed cX12_feed 8 (some .int) ∈ kt_ := kt_m (kt_t6 _ (List.mem_of_getElem? (i := 171) (by decide +kernel))) (by decide +kernel)
theorem uv_62 : Cond.methodLink RL 117 yL_law ∈ kt_ := kt_m (kt_t3 _ (List.mem_of_getElem? (i := 138) (by decide +kernel))) (by decide +kernel)
theorem uv_63 : Cond.static yL_law ∈ kt_ := kt_m (kt_t3 _ (List.mem_of_getElem? (i := 139) (by decide +kernel))) (by decide +kernel)
theorem uv_64 : Cond.codeWith yL_law cL_law 5 (some .int) [(0, 10, 13, 36)] ∈ kt_ := kt_m (kt_t3 _ (List.mem_of_getElem? (i := 140) (by decide +kernel))) (by decide +kernel)
theorem uv_65 : Cond.methodLink RL 119 yX12_law ∈ kt_ := kt_m (kt_t6 _ (List.mem_of_getElem? (i := 172) (by decide +kernel))) (by decide +kernel)
theorem uv_66 : Cond.instanceMethod yX12_law ∈ kt_ := kt_m (kt_t6 _ (List.mem_of_getElem? (i := 173) (by decide +kernel))) (by decide +kernel)
theorem uv_67 : Cond.selects RX12 yX12_law yX12_law ∈ kt_ := kt_m (kt_t6 _ (List.mem_of_getElem? (i := 174) (by decide +kernel))) (by decide +kernel)
theorem uv_68 : Cond.code yX12_law cX12_law 3 (some .int) ∈ kt_ := kt_m (kt_t6 _ (List.mem_of_getElem? (i := 175) (by decide +kernel))) (by decide +kernel)
theorem uv_69 : Cond.methodLink RL 120 yX11_fault ∈ kt_ := kt_m (kt_t2 _ (List.mem_of_getElem? (i := 155) (by decide +kernel))) (by decide +kernel)
theorem uv_70 : Cond.instanceMethod yX11_fault ∈ kt_ := kt_m (kt_t2 _ (List.mem_of_getElem? (i := 156) (by decide +kernel))) (by decide +kernel)
theorem uv_71 : Cond.selects RX11 yX11_fault yX11_fault ∈ kt_ := kt_m (kt_t2 _ (List.mem_of_getElem? (i := 157) (by decide +kernel))) (by decide +kernel)
theorem uv_72 : Cond.code yX11_fault cX11_fault 1 (some .int) ∈ kt_ := kt_m (kt_t2 _ (List.mem_of_getElem? (i := 158) (by decide +kernel))) (by decide +kernel)
theorem uv_73 : Cond.methodLink RL 124 yX12_fault ∈ kt_ := kt_m (kt_t6 _ (List.mem_of_getElem? (i := 237) (by decide +kernel))) (by decide +kernel)
theorem uv_74 : Cond.instanceMethod yX12_fault ∈ kt_ := kt_m (kt_t6 _ (List.mem_of_getElem? (i := 238) (by decide +kernel))) (by decide +kernel)
theorem uv_75 : Cond.selects RX12 yX12_fault yX12_fault ∈ kt_ := kt_m (kt_t6 _ (List.mem_of_getElem? (i := 239) (by decide +kernel))) (by decide +kernel)
theorem uv_76 : Cond.code yX12_fault cX12_fault 1 (some .int) ∈ kt_ := kt_m (kt_t7 _ (List.mem_of_getElem? (i := 0) (by decide +kernel))) (by decide +kernel)
theorem uv_77 : Cond.methodLink RL 125 yX11_cut ∈ kt_ := kt_m (kt_t2 _ (List.mem_of_getElem? (i := 159) (by decide +kernel))) (by decide +kernel)
theorem uv_78 : Cond.instanceMethod yX11_cut ∈ kt_ := kt_m (kt_t2 _ (List.mem_of_getElem? (i := 160) (by decide +kernel))) (by decide +kernel)
theorem uv_79 : Cond.selects RX11 yX11_cut yX11_cut ∈ kt_ := kt_m (kt_t2 _ (List.mem_of_getElem? (i := 161) (by decide +kernel))) (by decide +kernel)
theorem uv_80 : Cond.code yX11_cut cX11_cut 5 (some .int) ∈ kt_ := kt_m (kt_t2 _ (List.mem_of_getElem? (i := 162) (by decide +kernel))) (by decide +kernel)
theorem uv_81 : Cond.methodLink RL 128 yX12_cut ∈ kt_ := kt_m (kt_t7 _ (List.mem_of_getElem? (i := 1) (by decide +kernel))) (by decide +kernel)
theorem uv_82 : Cond.instanceMethod yX12_cut ∈ kt_ := kt_m (kt_t7 _ (List.mem_of_getElem? (i := 2) (by decide +kernel))) (by decide +kernel)
theorem uv_83 : Cond.selects RX12 yX12_cut yX12_cut ∈ kt_ := kt_m (kt_t7 _ (List.mem_of_getElem? (i := 3) (by decide +kernel))) (by decide +kernel)
theorem uv_84 : Cond.code yX12_cut cX12_cut 4 (some .int) ∈ kt_ := kt_m (kt_t7 _ (List.mem_of_getElem? (i := 4) (by decide +kernel))) (by decide +kernel)
theorem uv_85 : Cond.methodLink RL 129 yL_let ∈ kt_ := kt_m (kt_t4 _ (List.mem_of_getElem? (i := 82) (by decide +kernel))) (by decide +kernel)
theorem uv_86 : Cond.static yL_let ∈ kt_ := kt_m (kt_t4 _ (List.mem_of_getElem? (i := 83) (by decide +kernel))) (by decide +kernel)
theorem uv_87 : Cond.codeWith yL_let cL_let 6 (some .int) [(0, 12, 15, 13)] ∈ kt_ := kt_m (kt_t4 _ (List.mem_of_getElem? (i := 84) (by decide +kernel))) (by decide +kernel)
theorem uv_88 : Cond.methodLink RL 131 yX12_let ∈ kt_ := kt_m (kt_t7 _ (List.mem_of_getElem? (i := 6) (by decide +kernel))) (by decide +kernel)
theorem uv_89 : Cond.instanceMethod yX12_let ∈ kt_ := kt_m (kt_t7 _ (List.mem_of_getElem? (i := 7) (by decide +kernel))) (by decide +kernel)
theorem uv_90 : Cond.selects RX12 yX12_let yX12_let ∈ kt_ := kt_m (kt_t7 _ (List.mem_of_getElem? (i := 8) (by decide +kernel))) (by decide +kernel)
theorem uv_91 : Cond.code yX12_let cX12_let 4 (some .int) ∈ kt_ := kt_m (kt_t7 _ (List.mem_of_getElem? (i := 9) (by decide +kernel))) (by decide +kernel)
theorem uv_92 : Cond.methodLink RL 132 yL_hours ∈ kt_ := kt_m (kt_t4 _ (List.mem_of_getElem? (i := 144) (by decide +kernel))) (by decide +kernel)
theorem uv_93 : Cond.static yL_hours ∈ kt_ := kt_m (kt_t4 _ (List.mem_of_getElem? (i := 145) (by decide +kernel))) (by decide +kernel)
theorem uv_94 : Cond.codeWith yL_hours cL_hours 4 (some .int) [(0, 9, 12, 36)] ∈ kt_ := kt_m (kt_t4 _ (List.mem_of_getElem? (i := 146) (by decide +kernel))) (by decide +kernel)
theorem uv_95 : Cond.methodLink RL 135 yX12_hours ∈ kt_ := kt_m (kt_t7 _ (List.mem_of_getElem? (i := 44) (by decide +kernel))) (by decide +kernel)
theorem uv_96 : Cond.instanceMethod yX12_hours ∈ kt_ := kt_m (kt_t7 _ (List.mem_of_getElem? (i := 45) (by decide +kernel))) (by decide +kernel)
theorem uv_97 : Cond.selects RX12 yX12_hours yX12_hours ∈ kt_ := kt_m (kt_t7 _ (List.mem_of_getElem? (i := 46) (by decide +kernel))) (by decide +kernel)
theorem uv_98 : Cond.code yX12_hours cX12_hours 3 (some .int) ∈ kt_ := kt_m (kt_t7 _ (List.mem_of_getElem? (i := 47) (by decide +kernel))) (by decide +kernel)
theorem uv_99 : Cond.methodLink RL 136 yL_order ∈ kt_ := kt_m (kt_t5 _ (List.mem_of_getElem? (i := 33) (by decide +kernel))) (by decide +kernel)
theorem uv_100 : Cond.static yL_order ∈ kt_ := kt_m (kt_t5 _ (List.mem_of_getElem? (i := 34) (by decide +kernel))) (by decide +kernel)
theorem uv_101 : Cond.codeWith yL_order cL_order 7 (some .int) [(0, 14, 17, 13)] ∈ kt_ := kt_m (kt_t5 _ (List.mem_of_getElem? (i := 35) (by decide +kernel))) (by decide +kernel)
theorem uv_102 : Cond.methodLink RL 139 yX12_order ∈ kt_ := kt_m (kt_t7 _ (List.mem_of_getElem? (i := 86) (by decide +kernel))) (by decide +kernel)
theorem uv_103 : Cond.instanceMethod yX12_order ∈ kt_ := kt_m (kt_t7 _ (List.mem_of_getElem? (i := 87) (by decide +kernel))) (by decide +kernel)
theorem uv_104 : Cond.selects RX12 yX12_order yX12_order ∈ kt_ := kt_m (kt_t7 _ (List.mem_of_getElem? (i := 88) (by decide +kernel))) (by decide +kernel)
theorem uv_105 : Cond.code yX12_order cX12_order 5 (some .int) ∈ kt_ := kt_m (kt_t7 _ (List.mem_of_getElem? (i := 89) (by decide +kernel))) (by decide +kernel)
theorem uv_106 : Cond.methodLink RL 140 yL_wants ∈ kt_ := kt_m (kt_t5 _ (List.mem_of_getElem? (i := 58) (by decide +kernel))) (by decide +kernel)
theorem uv_107 : Cond.static yL_wants ∈ kt_ := kt_m (kt_t5 _ (List.mem_of_getElem? (i := 59) (by decide +kernel))) (by decide +kernel)
theorem uv_108 : Cond.codeWith yL_wants cL_wants 4 (some .int) [(0, 9, 12, 13)] ∈ kt_ := kt_m (kt_t5 _ (List.mem_of_getElem? (i := 60) (by decide +kernel))) (by decide +kernel)
theorem uv_109 : Cond.methodLink RL 142 yX12_wants ∈ kt_ := kt_m (kt_t7 _ (List.mem_of_getElem? (i := 90) (by decide +kernel))) (by decide +kernel)
theorem uv_110 : Cond.instanceMethod yX12_wants ∈ kt_ := kt_m (kt_t7 _ (List.mem_of_getElem? (i := 91) (by decide +kernel))) (by decide +kernel)
theorem uv_111 : Cond.selects RX12 yX12_wants yX12_wants ∈ kt_ := kt_m (kt_t7 _ (List.mem_of_getElem? (i := 92) (by decide +kernel))) (by decide +kernel)
theorem uv_112 : Cond.code yX12_wants cX12_wants 2 (some .int) ∈ kt_ := kt_m (kt_t7 _ (List.mem_of_getElem? (i := 93) (by decide +kernel))) (by decide +kernel)
theorem uv_113 : Cond.methodLink RL 143 yL_log ∈ kt_ := kt_m (kt_t5 _ (List.mem_of_getElem? (i := 66) (by decide +kernel))) (by decide +kernel)
theorem uv_114 : Cond.static yL_log ∈ kt_ := kt_m (kt_t5 _ (List.mem_of_getElem? (i := 67) (by decide +kernel))) (by decide +kernel)
theorem uv_115 : Cond.codeWith yL_log cL_log 5 (some .int) [(0, 10, 13, 13)] ∈ kt_ := kt_m (kt_t5 _ (List.mem_of_getElem? (i := 68) (by decide +kernel))) (by decide +kernel)
theorem uv_116 : Cond.methodLink RL 145 yX12_log ∈ kt_ := kt_m (kt_t7 _ (List.mem_of_getElem? (i := 94) (by decide +kernel))) (by decide +kernel)
theorem uv_117 : Cond.instanceMethod yX12_log ∈ kt_ := kt_m (kt_t7 _ (List.mem_of_getElem? (i := 95) (by decide +kernel))) (by decide +kernel)
theorem uv_118 : Cond.selects RX12 yX12_log yX12_log ∈ kt_ := kt_m (kt_t7 _ (List.mem_of_getElem? (i := 96) (by decide +kernel))) (by decide +kernel)
theorem uv_119 : Cond.code yX12_log cX12_log 3 (some .int) ∈ kt_ := kt_m (kt_t7 _ (List.mem_of_getElem? (i := 97) (by decide +kernel))) (by decide +kernel)
theorem uv_120 : Cond.methodLink RL 146 yL_cell ∈ kt_ := kt_m (kt_t5 _ (List.mem_of_getElem? (i := 74) (by decide +kernel))) (by decide +kernel)
theorem uv_121 : Cond.static yL_cell ∈ kt_ := kt_m (kt_t5 _ (List.mem_of_getElem? (i := 75) (by decide +kernel))) (by decide +kernel)
theorem uv_122 : Cond.codeWith yL_cell cL_cell 6 (some .int) [(0, 12, 15, 13)] ∈ kt_ := kt_m (kt_t5 _ (List.mem_of_getElem? (i := 76) (by decide +kernel))) (by decide +kernel)
theorem uv_123 : Cond.methodLink RL 148 yX12_cell ∈ kt_ := kt_m (kt_t7 _ (List.mem_of_getElem? (i := 98) (by decide +kernel))) (by decide +kernel)
theorem uv_124 : Cond.instanceMethod yX12_cell ∈ kt_ := kt_m (kt_t7 _ (List.mem_of_getElem? (i := 99) (by decide +kernel))) (by decide +kernel)
theorem uv_125 : Cond.selects RX12 yX12_cell yX12_cell ∈ kt_ := kt_m (kt_t7 _ (List.mem_of_getElem? (i := 100) (by decide +kernel))) (by decide +kernel)
theorem uv_126 : Cond.code yX12_cell cX12_cell 5 (some .int) ∈ kt_ := kt_m (kt_t7 _ (List.mem_of_getElem? (i := 101) (by decide +kernel))) (by decide +kernel)
theorem uv_127 : Cond.methodLink RL 149 yL_inCell ∈ kt_ := kt_m (kt_t5 _ (List.mem_of_getElem? (i := 82) (by decide +kernel))) (by decide +kernel)
theorem uv_128 : Cond.static yL_inCell ∈ kt_ := kt_m (kt_t5 _ (List.mem_of_getElem? (i := 83) (by decide +kernel))) (by decide +kernel)
theorem uv_129 : Cond.codeWith yL_inCell cL_inCell 6 (some .int) [(0, 12, 15, 13)] ∈ kt_ := kt_m (kt_t5 _ (List.mem_of_getElem? (i := 84) (by decide +kernel))) (by decide +kernel)
theorem uv_130 : Cond.methodLink RL 151 yX12_inCell ∈ kt_ := kt_m (kt_t7 _ (List.mem_of_getElem? (i := 102) (by decide +kernel))) (by decide +kernel)
theorem uv_131 : Cond.instanceMethod yX12_inCell ∈ kt_ := kt_m (kt_t7 _ (List.mem_of_getElem? (i := 103) (by decide +kernel))) (by decide +kernel)
theorem uv_132 : Cond.selects RX12 yX12_inCell yX12_inCell ∈ kt_ := kt_m (kt_t7 _ (List.mem_of_getElem? (i := 104) (by decide +kernel))) (by decide +kernel)
theorem uv_133 : Cond.code yX12_inCell cX12_inCell 4 (some .int) ∈ kt_ := kt_m (kt_t7 _ (List.mem_of_getElem? (i := 105) (by decide +kernel))) (by decide +kernel)
theorem uv_134 : Cond.methodLink RL 152 yL_heap ∈ kt_ := kt_m (kt_t5 _ (List.mem_of_getElem? (i := 92) (by decide +kernel))) (by decide +kernel)
theorem uv_135 : Cond.static yL_heap ∈ kt_ := kt_m (kt_t5 _ (List.mem_of_getElem? (i := 93) (by decide +kernel))) (by decide +kernel)
theorem uv_136 : Cond.codeWith yL_heap cL_heap 5 (some .int) [(0, 10, 13, 13)] ∈ kt_ := kt_m (kt_t5 _ (List.mem_of_getElem? (i := 94) (by decide +kernel))) (by decide +kernel)
theorem uv_137 : Cond.methodLink RL 154 yX12_heap ∈ kt_ := kt_m (kt_t7 _ (List.mem_of_getElem? (i := 106) (by decide +kernel))) (by decide +kernel)
theorem uv_138 : Cond.instanceMethod yX12_heap ∈ kt_ := kt_m (kt_t7 _ (List.mem_of_getElem? (i := 107) (by decide +kernel))) (by decide +kernel)
theorem uv_139 : Cond.selects RX12 yX12_heap yX12_heap ∈ kt_ := kt_m (kt_t7 _ (List.mem_of_getElem? (i := 108) (by decide +kernel))) (by decide +kernel)
theorem uv_140 : Cond.code yX12_heap cX12_heap 3 (some .int) ∈ kt_ := kt_m (kt_t7 _ (List.mem_of_getElem? (i := 109) (by decide +kernel))) (by decide +kernel)
theorem uv_141 : Cond.methodLink RL 155 yL_water ∈ kt_ := kt_m (kt_t5 _ (List.mem_of_getElem? (i := 99) (by decide +kernel))) (by decide +kernel)
theorem uv_142 : Cond.static yL_water ∈ kt_ := kt_m (kt_t5 _ (List.mem_of_getElem? (i := 100) (by decide +kernel))) (by decide +kernel)
theorem uv_143 : Cond.codeWith yL_water cL_water 5 (some .int) [(0, 10, 13, 13)] ∈ kt_ := kt_m (kt_t5 _ (List.mem_of_getElem? (i := 101) (by decide +kernel))) (by decide +kernel)
theorem uv_144 : Cond.methodLink RL 157 yX12_water ∈ kt_ := kt_m (kt_t7 _ (List.mem_of_getElem? (i := 110) (by decide +kernel))) (by decide +kernel)
theorem uv_145 : Cond.instanceMethod yX12_water ∈ kt_ := kt_m (kt_t7 _ (List.mem_of_getElem? (i := 111) (by decide +kernel))) (by decide +kernel)
theorem uv_146 : Cond.selects RX12 yX12_water yX12_water ∈ kt_ := kt_m (kt_t7 _ (List.mem_of_getElem? (i := 112) (by decide +kernel))) (by decide +kernel)
theorem uv_147 : Cond.code yX12_water cX12_water 3 (some .int) ∈ kt_ := kt_m (kt_t7 _ (List.mem_of_getElem? (i := 113) (by decide +kernel))) (by decide +kernel)
theorem uv_148 : Cond.methodLink RL 158 yL_waters ∈ kt_ := kt_m (kt_t5 _ (List.mem_of_getElem? (i := 107) (by decide +kernel))) (by decide +kernel)
theorem uv_149 : Cond.static yL_waters ∈ kt_ := kt_m (kt_t5 _ (List.mem_of_getElem? (i := 108) (by decide +kernel))) (by decide +kernel)
theorem uv_150 : Cond.codeWith yL_waters cL_waters 4 (some .int) [(0, 8, 11, 13)] ∈ kt_ := kt_m (kt_t5 _ (List.mem_of_getElem? (i := 109) (by decide +kernel))) (by decide +kernel)
theorem uv_151 : Cond.methodLink RL 160 yX12_waters ∈ kt_ := kt_m (kt_t7 _ (List.mem_of_getElem? (i := 114) (by decide +kernel))) (by decide +kernel)
theorem uv_152 : Cond.instanceMethod yX12_waters ∈ kt_ := kt_m (kt_t7 _ (List.mem_of_getElem? (i := 115) (by decide +kernel))) (by decide +kernel)
theorem uv_153 : Cond.selects RX12 yX12_waters yX12_waters ∈ kt_ := kt_m (kt_t7 _ (List.mem_of_getElem? (i := 116) (by decide +kernel))) (by decide +kernel)
theorem uv_154 : Cond.code yX12_waters cX12_waters 2 (some .long) ∈ kt_ := kt_m (kt_t7 _ (List.mem_of_getElem? (i := 117) (by decide +kernel))) (by decide +kernel)
theorem uv_155 : Cond.methodLink RL 161 yL_board ∈ kt_ := kt_m (kt_t5 _ (List.mem_of_getElem? (i := 115) (by decide +kernel))) (by decide +kernel)
theorem uv_156 : Cond.static yL_board ∈ kt_ := kt_m (kt_t5 _ (List.mem_of_getElem? (i := 116) (by decide +kernel))) (by decide +kernel)
theorem uv_157 : Cond.codeWith yL_board cL_board 4 (some .int) [(0, 9, 12, 13)] ∈ kt_ := kt_m (kt_t5 _ (List.mem_of_getElem? (i := 117) (by decide +kernel))) (by decide +kernel)
theorem uv_158 : Cond.methodLink RL 163 yX12_board ∈ kt_ := kt_m (kt_t7 _ (List.mem_of_getElem? (i := 118) (by decide +kernel))) (by decide +kernel)
theorem uv_159 : Cond.instanceMethod yX12_board ∈ kt_ := kt_m (kt_t7 _ (List.mem_of_getElem? (i := 119) (by decide +kernel))) (by decide +kernel)
theorem uv_160 : Cond.selects RX12 yX12_board yX12_board ∈ kt_ := kt_m (kt_t7 _ (List.mem_of_getElem? (i := 120) (by decide +kernel))) (by decide +kernel)
theorem uv_161 : Cond.code yX12_board cX12_board 2 (some .int) ∈ kt_ := kt_m (kt_t7 _ (List.mem_of_getElem? (i := 121) (by decide +kernel))) (by decide +kernel)
theorem uv_162 : Cond.methodLink RL 164 yL_paid ∈ kt_ := kt_m (kt_t5 _ (List.mem_of_getElem? (i := 123) (by decide +kernel))) (by decide +kernel)
theorem uv_163 : Cond.static yL_paid ∈ kt_ := kt_m (kt_t5 _ (List.mem_of_getElem? (i := 124) (by decide +kernel))) (by decide +kernel)
theorem uv_164 : Cond.codeWith yL_paid cL_paid 4 (some .int) [(0, 8, 11, 13)] ∈ kt_ := kt_m (kt_t5 _ (List.mem_of_getElem? (i := 125) (by decide +kernel))) (by decide +kernel)
theorem uv_165 : Cond.methodLink RL 166 yX12_paid ∈ kt_ := kt_m (kt_t7 _ (List.mem_of_getElem? (i := 122) (by decide +kernel))) (by decide +kernel)
theorem uv_166 : Cond.instanceMethod yX12_paid ∈ kt_ := kt_m (kt_t7 _ (List.mem_of_getElem? (i := 123) (by decide +kernel))) (by decide +kernel)
theorem uv_167 : Cond.selects RX12 yX12_paid yX12_paid ∈ kt_ := kt_m (kt_t7 _ (List.mem_of_getElem? (i := 124) (by decide +kernel))) (by decide +kernel)
theorem uv_168 : Cond.code yX12_paid cX12_paid 2 (some .long) ∈ kt_ := kt_m (kt_t7 _ (List.mem_of_getElem? (i := 125) (by decide +kernel))) (by decide +kernel)
theorem uv_169 : Cond.methodLink RL 167 yL_count ∈ kt_ := kt_m (kt_t5 _ (List.mem_of_getElem? (i := 131) (by decide +kernel))) (by decide +kernel)
theorem uv_170 : Cond.static yL_count ∈ kt_ := kt_m (kt_t5 _ (List.mem_of_getElem? (i := 132) (by decide +kernel))) (by decide +kernel)
theorem uv_171 : Cond.codeWith yL_count cL_count 4 (some .int) [(0, 9, 12, 13)] ∈ kt_ := kt_m (kt_t5 _ (List.mem_of_getElem? (i := 133) (by decide +kernel))) (by decide +kernel)
theorem uv_172 : Cond.methodLink RL 169 yX12_count ∈ kt_ := kt_m (kt_t7 _ (List.mem_of_getElem? (i := 126) (by decide +kernel))) (by decide +kernel)
theorem uv_173 : Cond.instanceMethod yX12_count ∈ kt_ := kt_m (kt_t7 _ (List.mem_of_getElem? (i := 127) (by decide +kernel))) (by decide +kernel)
theorem uv_174 : Cond.selects RX12 yX12_count yX12_count ∈ kt_ := kt_m (kt_t7 _ (List.mem_of_getElem? (i := 128) (by decide +kernel))) (by decide +kernel)
theorem uv_175 : Cond.code yX12_count cX12_count 5 (some .int) ∈ kt_ := kt_m (kt_t7 _ (List.mem_of_getElem? (i := 129) (by decide +kernel))) (by decide +kernel)
theorem dL_law__0 : decode cL_law_ 0 = .ok (.new 8, 3) := by decide +kernel
theorem dL_law__3 : decode cL_law_ 3 = .ok (.dup, 1) := by decide +kernel
theorem dL_law__4 : decode cL_law_ 4 = .ok (.invokespecial 81, 3) := by decide +kernel
theorem dL_law__7 : decode cL_law_ 7 = .ok (.astore_n 1, 1) := by decide +kernel
theorem dL_law__8 : decode cL_law_ 8 = .ok (.new 82, 3) := by decide +kernel
theorem dL_law__11 : decode cL_law_ 11 = .ok (.dup, 1) := by decide +kernel
theorem dL_law__12 : decode cL_law_ 12 = .ok (.invokespecial 84, 3) := by decide +kernel
theorem dL_law__15 : decode cL_law_ 15 = .ok (.astore_n 2, 1) := by decide +kernel
theorem dL_law__16 : decode cL_law_ 16 = .ok (.iconst 1, 1) := by decide +kernel
theorem dL_law__17 : decode cL_law_ 17 = .ok (.newarray .long, 2) := by decide +kernel
theorem dL_law__19 : decode cL_law_ 19 = .ok (.astore_n 3, 1) := by decide +kernel
theorem dL_law__20 : decode cL_law_ 20 = .ok (.iconst 0, 1) := by decide +kernel
theorem dL_law__21 : decode cL_law_ 21 = .ok (.istore 4, 2) := by decide +kernel
theorem dL_law__23 : decode cL_law_ 23 = .ok (.iload 4, 2) := by decide +kernel
theorem dL_law__25 : decode cL_law_ 25 = .ok (.aload_n 0, 1) := by decide +kernel
theorem dL_law__26 : decode cL_law_ 26 = .ok (.arraylength, 1) := by decide +kernel
theorem dL_law__27 : decode cL_law_ 27 = .ok (.bipush 6, 2) := by decide +kernel
theorem dL_law__29 : decode cL_law_ 29 = .ok (.isub, 1) := by decide +kernel
theorem dL_law__30 : decode cL_law_ 30 = .ok (.if_icmp .gt 1140, 3) := by decide +kernel
theorem dL_law__33 : decode cL_law_ 33 = .ok (.aload_n 0, 1) := by decide +kernel
theorem dL_law__34 : decode cL_law_ 34 = .ok (.iload 4, 2) := by decide +kernel
theorem dL_law__36 : decode cL_law_ 36 = .ok (.iaload, 1) := by decide +kernel
theorem dL_law__37 : decode cL_law_ 37 = .ok (.bipush 31, 2) := by decide +kernel
theorem dL_law__39 : decode cL_law_ 39 = .ok (.iand, 1) := by decide +kernel
theorem dL_law__40 : decode cL_law_ 40 = .ok (.tableswitch 1124 0 23 #[112, 173, 213, 253, 293, 345, 401, 441, 514, 554, 567, 616, 668, 696, 760, 788, 828, 880, 932, 972, 1012, 1040, 1068, 1096], 112) := by decide +kernel
theorem dL_law__152 : decode cL_law_ 152 = .ok (.aload_n 1, 1) := by decide +kernel
theorem dL_law__153 : decode cL_law_ 153 = .ok (.aload_n 0, 1) := by decide +kernel
theorem dL_law__154 : decode cL_law_ 154 = .ok (.iload 4, 2) := by decide +kernel
theorem dL_law__156 : decode cL_law_ 156 = .ok (.iconst 1, 1) := by decide +kernel
theorem dL_law__157 : decode cL_law_ 157 = .ok (.iadd, 1) := by decide +kernel
theorem dL_law__158 : decode cL_law_ 158 = .ok (.iaload, 1) := by decide +kernel
theorem dL_law__159 : decode cL_law_ 159 = .ok (.aload_n 0, 1) := by decide +kernel
theorem dL_law__160 : decode cL_law_ 160 = .ok (.iload 4, 2) := by decide +kernel
theorem dL_law__162 : decode cL_law_ 162 = .ok (.iconst 2, 1) := by decide +kernel
theorem dL_law__163 : decode cL_law_ 163 = .ok (.iadd, 1) := by decide +kernel
theorem dL_law__164 : decode cL_law_ 164 = .ok (.iaload, 1) := by decide +kernel
theorem dL_law__165 : decode cL_law_ 165 = .ok (.aload_n 0, 1) := by decide +kernel
theorem dL_law__166 : decode cL_law_ 166 = .ok (.iload 4, 2) := by decide +kernel
theorem dL_law__168 : decode cL_law_ 168 = .ok (.iconst 3, 1) := by decide +kernel
theorem dL_law__169 : decode cL_law_ 169 = .ok (.iadd, 1) := by decide +kernel
theorem dL_law__170 : decode cL_law_ 170 = .ok (.iaload, 1) := by decide +kernel
theorem dL_law__171 : decode cL_law_ 171 = .ok (.aload_n 0, 1) := by decide +kernel
theorem dL_law__172 : decode cL_law_ 172 = .ok (.iload 4, 2) := by decide +kernel
theorem dL_law__174 : decode cL_law_ 174 = .ok (.iconst 4, 1) := by decide +kernel
theorem dL_law__175 : decode cL_law_ 175 = .ok (.iadd, 1) := by decide +kernel
theorem dL_law__176 : decode cL_law_ 176 = .ok (.iaload, 1) := by decide +kernel
theorem dL_law__177 : decode cL_law_ 177 = .ok (.invokevirtual 85, 3) := by decide +kernel
theorem dL_law__180 : decode cL_law_ 180 = .ok (.pop, 1) := by decide +kernel
theorem dL_law__181 : decode cL_law_ 181 = .ok (.aload_n 2, 1) := by decide +kernel
theorem dL_law__182 : decode cL_law_ 182 = .ok (.aload_n 0, 1) := by decide +kernel
theorem dL_law__183 : decode cL_law_ 183 = .ok (.iload 4, 2) := by decide +kernel
theorem dL_law__185 : decode cL_law_ 185 = .ok (.iconst 1, 1) := by decide +kernel
theorem dL_law__186 : decode cL_law_ 186 = .ok (.iadd, 1) := by decide +kernel
theorem dL_law__187 : decode cL_law_ 187 = .ok (.iaload, 1) := by decide +kernel
theorem dL_law__188 : decode cL_law_ 188 = .ok (.aload_n 0, 1) := by decide +kernel
theorem dL_law__189 : decode cL_law_ 189 = .ok (.iload 4, 2) := by decide +kernel
theorem dL_law__191 : decode cL_law_ 191 = .ok (.iconst 2, 1) := by decide +kernel
theorem dL_law__192 : decode cL_law_ 192 = .ok (.iadd, 1) := by decide +kernel
theorem dL_law__193 : decode cL_law_ 193 = .ok (.iaload, 1) := by decide +kernel
theorem dL_law__194 : decode cL_law_ 194 = .ok (.aload_n 0, 1) := by decide +kernel
theorem dL_law__195 : decode cL_law_ 195 = .ok (.iload 4, 2) := by decide +kernel
theorem dL_law__197 : decode cL_law_ 197 = .ok (.iconst 3, 1) := by decide +kernel
theorem dL_law__198 : decode cL_law_ 198 = .ok (.iadd, 1) := by decide +kernel
theorem dL_law__199 : decode cL_law_ 199 = .ok (.iaload, 1) := by decide +kernel
theorem dL_law__200 : decode cL_law_ 200 = .ok (.aload_n 0, 1) := by decide +kernel
theorem dL_law__201 : decode cL_law_ 201 = .ok (.iload 4, 2) := by decide +kernel
theorem dL_law__203 : decode cL_law_ 203 = .ok (.iconst 4, 1) := by decide +kernel
theorem dL_law__204 : decode cL_law_ 204 = .ok (.iadd, 1) := by decide +kernel
theorem dL_law__205 : decode cL_law_ 205 = .ok (.iaload, 1) := by decide +kernel
theorem dL_law__206 : decode cL_law_ 206 = .ok (.invokevirtual 88, 3) := by decide +kernel
theorem dL_law__209 : decode cL_law_ 209 = .ok (.pop, 1) := by decide +kernel
theorem dL_law__210 : decode cL_law_ 210 = .ok (.goto 954, 3) := by decide +kernel
theorem dL_law__213 : decode cL_law_ 213 = .ok (.aload_n 1, 1) := by decide +kernel
theorem dL_law__214 : decode cL_law_ 214 = .ok (.aload_n 0, 1) := by decide +kernel
theorem dL_law__215 : decode cL_law_ 215 = .ok (.iload 4, 2) := by decide +kernel
theorem dL_law__217 : decode cL_law_ 217 = .ok (.iconst 1, 1) := by decide +kernel
theorem dL_law__218 : decode cL_law_ 218 = .ok (.iadd, 1) := by decide +kernel
theorem dL_law__219 : decode cL_law_ 219 = .ok (.iaload, 1) := by decide +kernel
theorem dL_law__220 : decode cL_law_ 220 = .ok (.aload_n 0, 1) := by decide +kernel
theorem dL_law__221 : decode cL_law_ 221 = .ok (.iload 4, 2) := by decide +kernel
theorem dL_law__223 : decode cL_law_ 223 = .ok (.iconst 2, 1) := by decide +kernel
theorem dL_law__224 : decode cL_law_ 224 = .ok (.iadd, 1) := by decide +kernel
theorem dL_law__225 : decode cL_law_ 225 = .ok (.iaload, 1) := by decide +kernel
theorem dL_law__226 : decode cL_law_ 226 = .ok (.aload_n 3, 1) := by decide +kernel
theorem dL_law__227 : decode cL_law_ 227 = .ok (.invokestatic 89, 3) := by decide +kernel
theorem dL_law__230 : decode cL_law_ 230 = .ok (.istore 5, 2) := by decide +kernel
theorem dL_law__232 : decode cL_law_ 232 = .ok (.aload_n 2, 1) := by decide +kernel
theorem dL_law__233 : decode cL_law_ 233 = .ok (.aload_n 0, 1) := by decide +kernel
theorem dL_law__234 : decode cL_law_ 234 = .ok (.iload 4, 2) := by decide +kernel
theorem dL_law__236 : decode cL_law_ 236 = .ok (.iconst 1, 1) := by decide +kernel
theorem dL_law__237 : decode cL_law_ 237 = .ok (.iadd, 1) := by decide +kernel
theorem dL_law__238 : decode cL_law_ 238 = .ok (.iaload, 1) := by decide +kernel
theorem dL_law__239 : decode cL_law_ 239 = .ok (.aload_n 0, 1) := by decide +kernel
theorem dL_law__240 : decode cL_law_ 240 = .ok (.iload 4, 2) := by decide +kernel
theorem dL_law__242 : decode cL_law_ 242 = .ok (.iconst 2, 1) := by decide +kernel
theorem dL_law__243 : decode cL_law_ 243 = .ok (.iadd, 1) := by decide +kernel
theorem dL_law__244 : decode cL_law_ 244 = .ok (.iaload, 1) := by decide +kernel
theorem dL_law__245 : decode cL_law_ 245 = .ok (.invokevirtual 94, 3) := by decide +kernel
theorem dL_law__248 : decode cL_law_ 248 = .ok (.istore 6, 2) := by decide +kernel
theorem dL_law__250 : decode cL_law_ 250 = .ok (.goto 914, 3) := by decide +kernel
theorem dL_law__253 : decode cL_law_ 253 = .ok (.aload_n 1, 1) := by decide +kernel
theorem dL_law__254 : decode cL_law_ 254 = .ok (.aload_n 0, 1) := by decide +kernel
theorem dL_law__255 : decode cL_law_ 255 = .ok (.iload 4, 2) := by decide +kernel
theorem dL_law__257 : decode cL_law_ 257 = .ok (.iconst 1, 1) := by decide +kernel
theorem dL_law__258 : decode cL_law_ 258 = .ok (.iadd, 1) := by decide +kernel
theorem dL_law__259 : decode cL_law_ 259 = .ok (.iaload, 1) := by decide +kernel
theorem dL_law__260 : decode cL_law_ 260 = .ok (.aload_n 0, 1) := by decide +kernel
theorem dL_law__261 : decode cL_law_ 261 = .ok (.iload 4, 2) := by decide +kernel
theorem dL_law__263 : decode cL_law_ 263 = .ok (.iconst 2, 1) := by decide +kernel
theorem dL_law__264 : decode cL_law_ 264 = .ok (.iadd, 1) := by decide +kernel
theorem dL_law__265 : decode cL_law_ 265 = .ok (.iaload, 1) := by decide +kernel
theorem dL_law__266 : decode cL_law_ 266 = .ok (.aload_n 3, 1) := by decide +kernel
theorem dL_law__267 : decode cL_law_ 267 = .ok (.invokestatic 95, 3) := by decide +kernel
theorem dL_law__270 : decode cL_law_ 270 = .ok (.istore 5, 2) := by decide +kernel
theorem dL_law__272 : decode cL_law_ 272 = .ok (.aload_n 2, 1) := by decide +kernel
theorem dL_law__273 : decode cL_law_ 273 = .ok (.aload_n 0, 1) := by decide +kernel
theorem dL_law__274 : decode cL_law_ 274 = .ok (.iload 4, 2) := by decide +kernel
theorem dL_law__276 : decode cL_law_ 276 = .ok (.iconst 1, 1) := by decide +kernel
theorem dL_law__277 : decode cL_law_ 277 = .ok (.iadd, 1) := by decide +kernel
theorem dL_law__278 : decode cL_law_ 278 = .ok (.iaload, 1) := by decide +kernel
theorem dL_law__279 : decode cL_law_ 279 = .ok (.aload_n 0, 1) := by decide +kernel
theorem dL_law__280 : decode cL_law_ 280 = .ok (.iload 4, 2) := by decide +kernel
theorem dL_law__282 : decode cL_law_ 282 = .ok (.iconst 2, 1) := by decide +kernel
theorem dL_law__283 : decode cL_law_ 283 = .ok (.iadd, 1) := by decide +kernel
theorem dL_law__284 : decode cL_law_ 284 = .ok (.iaload, 1) := by decide +kernel
theorem dL_law__285 : decode cL_law_ 285 = .ok (.invokevirtual 97, 3) := by decide +kernel
theorem dL_law__288 : decode cL_law_ 288 = .ok (.istore 6, 2) := by decide +kernel
theorem dL_law__290 : decode cL_law_ 290 = .ok (.goto 874, 3) := by decide +kernel
theorem dL_law__293 : decode cL_law_ 293 = .ok (.aload_n 1, 1) := by decide +kernel
theorem dL_law__294 : decode cL_law_ 294 = .ok (.aload_n 0, 1) := by decide +kernel
theorem dL_law__295 : decode cL_law_ 295 = .ok (.iload 4, 2) := by decide +kernel
theorem dL_law__297 : decode cL_law_ 297 = .ok (.iconst 1, 1) := by decide +kernel
theorem dL_law__298 : decode cL_law_ 298 = .ok (.iadd, 1) := by decide +kernel
theorem dL_law__299 : decode cL_law_ 299 = .ok (.iaload, 1) := by decide +kernel
theorem dL_law__300 : decode cL_law_ 300 = .ok (.aload_n 0, 1) := by decide +kernel
theorem dL_law__301 : decode cL_law_ 301 = .ok (.iload 4, 2) := by decide +kernel
theorem dL_law__303 : decode cL_law_ 303 = .ok (.iconst 2, 1) := by decide +kernel
theorem dL_law__304 : decode cL_law_ 304 = .ok (.iadd, 1) := by decide +kernel
theorem dL_law__305 : decode cL_law_ 305 = .ok (.iaload, 1) := by decide +kernel
theorem dL_law__306 : decode cL_law_ 306 = .ok (.aload_n 3, 1) := by decide +kernel
theorem dL_law__307 : decode cL_law_ 307 = .ok (.invokestatic 98, 3) := by decide +kernel
theorem dL_law__310 : decode cL_law_ 310 = .ok (.istore 5, 2) := by decide +kernel
theorem dL_law__312 : decode cL_law_ 312 = .ok (.aload_n 2, 1) := by decide +kernel
theorem dL_law__313 : decode cL_law_ 313 = .ok (.aload_n 0, 1) := by decide +kernel
theorem dL_law__314 : decode cL_law_ 314 = .ok (.iload 4, 2) := by decide +kernel
theorem dL_law__316 : decode cL_law_ 316 = .ok (.iconst 1, 1) := by decide +kernel
theorem dL_law__317 : decode cL_law_ 317 = .ok (.iadd, 1) := by decide +kernel
theorem dL_law__318 : decode cL_law_ 318 = .ok (.iaload, 1) := by decide +kernel
theorem dL_law__319 : decode cL_law_ 319 = .ok (.aload_n 0, 1) := by decide +kernel
theorem dL_law__320 : decode cL_law_ 320 = .ok (.iload 4, 2) := by decide +kernel
theorem dL_law__322 : decode cL_law_ 322 = .ok (.iconst 2, 1) := by decide +kernel
theorem dL_law__323 : decode cL_law_ 323 = .ok (.iadd, 1) := by decide +kernel
theorem dL_law__324 : decode cL_law_ 324 = .ok (.iaload, 1) := by decide +kernel
theorem dL_law__325 : decode cL_law_ 325 = .ok (.invokevirtual 100, 3) := by decide +kernel
theorem dL_law__328 : decode cL_law_ 328 = .ok (.istore 6, 2) := by decide +kernel
theorem dL_law__330 : decode cL_law_ 330 = .ok (.goto 834, 3) := by decide +kernel
theorem dL_law__333 : decode cL_law_ 333 = .ok (.aload_n 1, 1) := by decide +kernel
theorem dL_law__334 : decode cL_law_ 334 = .ok (.aload_n 0, 1) := by decide +kernel
theorem dL_law__335 : decode cL_law_ 335 = .ok (.iload 4, 2) := by decide +kernel
theorem dL_law__337 : decode cL_law_ 337 = .ok (.iconst 1, 1) := by decide +kernel
theorem dL_law__338 : decode cL_law_ 338 = .ok (.iadd, 1) := by decide +kernel
theorem dL_law__339 : decode cL_law_ 339 = .ok (.iaload, 1) := by decide +kernel
theorem dL_law__340 : decode cL_law_ 340 = .ok (.aload_n 0, 1) := by decide +kernel
theorem dL_law__341 : decode cL_law_ 341 = .ok (.iload 4, 2) := by decide +kernel
theorem dL_law__343 : decode cL_law_ 343 = .ok (.iconst 2, 1) := by decide +kernel
theorem dL_law__344 : decode cL_law_ 344 = .ok (.iadd, 1) := by decide +kernel
theorem dL_law__345 : decode cL_law_ 345 = .ok (.iaload, 1) := by decide +kernel
theorem dL_law__346 : decode cL_law_ 346 = .ok (.aload_n 0, 1) := by decide +kernel
theorem dL_law__347 : decode cL_law_ 347 = .ok (.iload 4, 2) := by decide +kernel
theorem dL_law__349 : decode cL_law_ 349 = .ok (.iconst 3, 1) := by decide +kernel
theorem dL_law__350 : decode cL_law_ 350 = .ok (.iadd, 1) := by decide +kernel
theorem dL_law__351 : decode cL_law_ 351 = .ok (.iaload, 1) := by decide +kernel
theorem dL_law__352 : decode cL_law_ 352 = .ok (.aload_n 3, 1) := by decide +kernel
theorem dL_law__353 : decode cL_law_ 353 = .ok (.invokestatic 101, 3) := by decide +kernel
theorem dL_law__356 : decode cL_law_ 356 = .ok (.istore 5, 2) := by decide +kernel
theorem dL_law__358 : decode cL_law_ 358 = .ok (.aload_n 2, 1) := by decide +kernel
theorem dL_law__359 : decode cL_law_ 359 = .ok (.aload_n 0, 1) := by decide +kernel
theorem dL_law__360 : decode cL_law_ 360 = .ok (.iload 4, 2) := by decide +kernel
theorem dL_law__362 : decode cL_law_ 362 = .ok (.iconst 1, 1) := by decide +kernel
theorem dL_law__363 : decode cL_law_ 363 = .ok (.iadd, 1) := by decide +kernel
theorem dL_law__364 : decode cL_law_ 364 = .ok (.iaload, 1) := by decide +kernel
theorem dL_law__365 : decode cL_law_ 365 = .ok (.aload_n 0, 1) := by decide +kernel
theorem dL_law__366 : decode cL_law_ 366 = .ok (.iload 4, 2) := by decide +kernel
theorem dL_law__368 : decode cL_law_ 368 = .ok (.iconst 2, 1) := by decide +kernel
theorem dL_law__369 : decode cL_law_ 369 = .ok (.iadd, 1) := by decide +kernel
theorem dL_law__370 : decode cL_law_ 370 = .ok (.iaload, 1) := by decide +kernel
theorem dL_law__371 : decode cL_law_ 371 = .ok (.aload_n 0, 1) := by decide +kernel
theorem dL_law__372 : decode cL_law_ 372 = .ok (.iload 4, 2) := by decide +kernel
theorem dL_law__374 : decode cL_law_ 374 = .ok (.iconst 3, 1) := by decide +kernel
theorem dL_law__375 : decode cL_law_ 375 = .ok (.iadd, 1) := by decide +kernel
theorem dL_law__376 : decode cL_law_ 376 = .ok (.iaload, 1) := by decide +kernel
theorem dL_law__377 : decode cL_law_ 377 = .ok (.invokevirtual 104, 3) := by decide +kernel
theorem dL_law__380 : decode cL_law_ 380 = .ok (.istore 6, 2) := by decide +kernel
theorem dL_law__382 : decode cL_law_ 382 = .ok (.goto 782, 3) := by decide +kernel
theorem dL_law__385 : decode cL_law_ 385 = .ok (.aload_n 1, 1) := by decide +kernel
theorem dL_law__386 : decode cL_law_ 386 = .ok (.aload_n 0, 1) := by decide +kernel
theorem dL_law__387 : decode cL_law_ 387 = .ok (.iload 4, 2) := by decide +kernel
theorem dL_law__389 : decode cL_law_ 389 = .ok (.iconst 1, 1) := by decide +kernel
theorem dL_law__390 : decode cL_law_ 390 = .ok (.iadd, 1) := by decide +kernel
theorem dL_law__391 : decode cL_law_ 391 = .ok (.iaload, 1) := by decide +kernel
theorem dL_law__392 : decode cL_law_ 392 = .ok (.aload_n 0, 1) := by decide +kernel
theorem dL_law__393 : decode cL_law_ 393 = .ok (.iload 4, 2) := by decide +kernel
theorem dL_law__395 : decode cL_law_ 395 = .ok (.iconst 2, 1) := by decide +kernel
theorem dL_law__396 : decode cL_law_ 396 = .ok (.iadd, 1) := by decide +kernel
theorem dL_law__397 : decode cL_law_ 397 = .ok (.iaload, 1) := by decide +kernel
theorem dL_law__398 : decode cL_law_ 398 = .ok (.ifCond .eq 7, 3) := by decide +kernel
theorem dL_law__401 : decode cL_law_ 401 = .ok (.iconst 1, 1) := by decide +kernel
theorem dL_law__402 : decode cL_law_ 402 = .ok (.goto 4, 3) := by decide +kernel
theorem dL_law__405 : decode cL_law_ 405 = .ok (.iconst 0, 1) := by decide +kernel
theorem dL_law__406 : decode cL_law_ 406 = .ok (.aload_n 3, 1) := by decide +kernel
theorem dL_law__407 : decode cL_law_ 407 = .ok (.invokestatic 105, 3) := by decide +kernel
theorem dL_law__410 : decode cL_law_ 410 = .ok (.istore 5, 2) := by decide +kernel
theorem dL_law__412 : decode cL_law_ 412 = .ok (.aload_n 2, 1) := by decide +kernel
theorem dL_law__413 : decode cL_law_ 413 = .ok (.aload_n 0, 1) := by decide +kernel
theorem dL_law__414 : decode cL_law_ 414 = .ok (.iload 4, 2) := by decide +kernel
theorem dL_law__416 : decode cL_law_ 416 = .ok (.iconst 1, 1) := by decide +kernel
theorem dL_law__417 : decode cL_law_ 417 = .ok (.iadd, 1) := by decide +kernel
theorem dL_law__418 : decode cL_law_ 418 = .ok (.iaload, 1) := by decide +kernel
theorem dL_law__419 : decode cL_law_ 419 = .ok (.aload_n 0, 1) := by decide +kernel
theorem dL_law__420 : decode cL_law_ 420 = .ok (.iload 4, 2) := by decide +kernel
theorem dL_law__422 : decode cL_law_ 422 = .ok (.iconst 2, 1) := by decide +kernel
theorem dL_law__423 : decode cL_law_ 423 = .ok (.iadd, 1) := by decide +kernel
theorem dL_law__424 : decode cL_law_ 424 = .ok (.iaload, 1) := by decide +kernel
theorem dL_law__425 : decode cL_law_ 425 = .ok (.ifCond .eq 7, 3) := by decide +kernel
theorem dL_law__428 : decode cL_law_ 428 = .ok (.iconst 1, 1) := by decide +kernel
theorem dL_law__429 : decode cL_law_ 429 = .ok (.goto 4, 3) := by decide +kernel
theorem dL_law__432 : decode cL_law_ 432 = .ok (.iconst 0, 1) := by decide +kernel
theorem dL_law__433 : decode cL_law_ 433 = .ok (.invokevirtual 108, 3) := by decide +kernel
theorem dL_law__436 : decode cL_law_ 436 = .ok (.istore 6, 2) := by decide +kernel
theorem dL_law__438 : decode cL_law_ 438 = .ok (.goto 726, 3) := by decide +kernel
theorem dL_law__441 : decode cL_law_ 441 = .ok (.aload_n 1, 1) := by decide +kernel
theorem dL_law__442 : decode cL_law_ 442 = .ok (.aload_n 0, 1) := by decide +kernel
theorem dL_law__443 : decode cL_law_ 443 = .ok (.iload 4, 2) := by decide +kernel
theorem dL_law__445 : decode cL_law_ 445 = .ok (.iconst 1, 1) := by decide +kernel
theorem dL_law__446 : decode cL_law_ 446 = .ok (.iadd, 1) := by decide +kernel
theorem dL_law__447 : decode cL_law_ 447 = .ok (.iaload, 1) := by decide +kernel
theorem dL_law__448 : decode cL_law_ 448 = .ok (.aload_n 0, 1) := by decide +kernel
theorem dL_law__449 : decode cL_law_ 449 = .ok (.iload 4, 2) := by decide +kernel
theorem dL_law__451 : decode cL_law_ 451 = .ok (.iconst 2, 1) := by decide +kernel
theorem dL_law__452 : decode cL_law_ 452 = .ok (.iadd, 1) := by decide +kernel
theorem dL_law__453 : decode cL_law_ 453 = .ok (.iaload, 1) := by decide +kernel
theorem dL_law__454 : decode cL_law_ 454 = .ok (.aload_n 3, 1) := by decide +kernel
theorem dL_law__455 : decode cL_law_ 455 = .ok (.invokestatic 109, 3) := by decide +kernel
theorem dL_law__458 : decode cL_law_ 458 = .ok (.istore 5, 2) := by decide +kernel
theorem dL_law__460 : decode cL_law_ 460 = .ok (.aload_n 2, 1) := by decide +kernel
theorem dL_law__461 : decode cL_law_ 461 = .ok (.aload_n 0, 1) := by decide +kernel
theorem dL_law__462 : decode cL_law_ 462 = .ok (.iload 4, 2) := by decide +kernel
theorem dL_law__464 : decode cL_law_ 464 = .ok (.iconst 1, 1) := by decide +kernel
theorem dL_law__465 : decode cL_law_ 465 = .ok (.iadd, 1) := by decide +kernel
theorem dL_law__466 : decode cL_law_ 466 = .ok (.iaload, 1) := by decide +kernel
theorem dL_law__467 : decode cL_law_ 467 = .ok (.aload_n 0, 1) := by decide +kernel
theorem dL_law__468 : decode cL_law_ 468 = .ok (.iload 4, 2) := by decide +kernel
theorem dL_law__470 : decode cL_law_ 470 = .ok (.iconst 2, 1) := by decide +kernel
theorem dL_law__471 : decode cL_law_ 471 = .ok (.iadd, 1) := by decide +kernel
theorem dL_law__472 : decode cL_law_ 472 = .ok (.iaload, 1) := by decide +kernel
theorem dL_law__473 : decode cL_law_ 473 = .ok (.invokevirtual 111, 3) := by decide +kernel
theorem dL_law__476 : decode cL_law_ 476 = .ok (.istore 6, 2) := by decide +kernel
theorem dL_law__478 : decode cL_law_ 478 = .ok (.goto 686, 3) := by decide +kernel
theorem dL_law__481 : decode cL_law_ 481 = .ok (.aload_n 1, 1) := by decide +kernel
theorem dL_law__482 : decode cL_law_ 482 = .ok (.aload_n 0, 1) := by decide +kernel
theorem dL_law__483 : decode cL_law_ 483 = .ok (.iload 4, 2) := by decide +kernel
theorem dL_law__485 : decode cL_law_ 485 = .ok (.iconst 1, 1) := by decide +kernel
theorem dL_law__486 : decode cL_law_ 486 = .ok (.iadd, 1) := by decide +kernel
theorem dL_law__487 : decode cL_law_ 487 = .ok (.iaload, 1) := by decide +kernel
theorem dL_law__488 : decode cL_law_ 488 = .ok (.aload_n 0, 1) := by decide +kernel
theorem dL_law__489 : decode cL_law_ 489 = .ok (.iload 4, 2) := by decide +kernel
theorem dL_law__491 : decode cL_law_ 491 = .ok (.iconst 2, 1) := by decide +kernel
theorem dL_law__492 : decode cL_law_ 492 = .ok (.iadd, 1) := by decide +kernel
theorem dL_law__493 : decode cL_law_ 493 = .ok (.iaload, 1) := by decide +kernel
theorem dL_law__494 : decode cL_law_ 494 = .ok (.aload_n 0, 1) := by decide +kernel
theorem dL_law__495 : decode cL_law_ 495 = .ok (.iload 4, 2) := by decide +kernel
theorem dL_law__497 : decode cL_law_ 497 = .ok (.iconst 3, 1) := by decide +kernel
theorem dL_law__498 : decode cL_law_ 498 = .ok (.iadd, 1) := by decide +kernel
theorem dL_law__499 : decode cL_law_ 499 = .ok (.iaload, 1) := by decide +kernel
theorem dL_law__500 : decode cL_law_ 500 = .ok (.aload_n 0, 1) := by decide +kernel
theorem dL_law__501 : decode cL_law_ 501 = .ok (.iload 4, 2) := by decide +kernel
theorem dL_law__503 : decode cL_law_ 503 = .ok (.iconst 4, 1) := by decide +kernel
theorem dL_law__504 : decode cL_law_ 504 = .ok (.iadd, 1) := by decide +kernel
theorem dL_law__505 : decode cL_law_ 505 = .ok (.iaload, 1) := by decide +kernel
theorem dL_law__506 : decode cL_law_ 506 = .ok (.aload_n 0, 1) := by decide +kernel
theorem dL_law__507 : decode cL_law_ 507 = .ok (.iload 4, 2) := by decide +kernel
theorem dL_law__509 : decode cL_law_ 509 = .ok (.iconst 5, 1) := by decide +kernel
theorem dL_law__510 : decode cL_law_ 510 = .ok (.iadd, 1) := by decide +kernel
theorem dL_law__511 : decode cL_law_ 511 = .ok (.iaload, 1) := by decide +kernel
theorem dL_law__512 : decode cL_law_ 512 = .ok (.invokevirtual 112, 3) := by decide +kernel
theorem dL_law__515 : decode cL_law_ 515 = .ok (.pop, 1) := by decide +kernel
theorem dL_law__516 : decode cL_law_ 516 = .ok (.aload_n 2, 1) := by decide +kernel
theorem dL_law__517 : decode cL_law_ 517 = .ok (.aload_n 0, 1) := by decide +kernel
theorem dL_law__518 : decode cL_law_ 518 = .ok (.iload 4, 2) := by decide +kernel
theorem dL_law__520 : decode cL_law_ 520 = .ok (.iconst 1, 1) := by decide +kernel
theorem dL_law__521 : decode cL_law_ 521 = .ok (.iadd, 1) := by decide +kernel
theorem dL_law__522 : decode cL_law_ 522 = .ok (.iaload, 1) := by decide +kernel
theorem dL_law__523 : decode cL_law_ 523 = .ok (.aload_n 0, 1) := by decide +kernel
theorem dL_law__524 : decode cL_law_ 524 = .ok (.iload 4, 2) := by decide +kernel
theorem dL_law__526 : decode cL_law_ 526 = .ok (.iconst 2, 1) := by decide +kernel
theorem dL_law__527 : decode cL_law_ 527 = .ok (.iadd, 1) := by decide +kernel
theorem dL_law__528 : decode cL_law_ 528 = .ok (.iaload, 1) := by decide +kernel
theorem dL_law__529 : decode cL_law_ 529 = .ok (.aload_n 0, 1) := by decide +kernel
theorem dL_law__530 : decode cL_law_ 530 = .ok (.iload 4, 2) := by decide +kernel
theorem dL_law__532 : decode cL_law_ 532 = .ok (.iconst 3, 1) := by decide +kernel
theorem dL_law__533 : decode cL_law_ 533 = .ok (.iadd, 1) := by decide +kernel
theorem dL_law__534 : decode cL_law_ 534 = .ok (.iaload, 1) := by decide +kernel
theorem dL_law__535 : decode cL_law_ 535 = .ok (.aload_n 0, 1) := by decide +kernel
theorem dL_law__536 : decode cL_law_ 536 = .ok (.iload 4, 2) := by decide +kernel
theorem dL_law__538 : decode cL_law_ 538 = .ok (.iconst 4, 1) := by decide +kernel
theorem dL_law__539 : decode cL_law_ 539 = .ok (.iadd, 1) := by decide +kernel
theorem dL_law__540 : decode cL_law_ 540 = .ok (.iaload, 1) := by decide +kernel
theorem dL_law__541 : decode cL_law_ 541 = .ok (.aload_n 0, 1) := by decide +kernel
theorem dL_law__542 : decode cL_law_ 542 = .ok (.iload 4, 2) := by decide +kernel
theorem dL_law__544 : decode cL_law_ 544 = .ok (.iconst 5, 1) := by decide +kernel
theorem dL_law__545 : decode cL_law_ 545 = .ok (.iadd, 1) := by decide +kernel
theorem dL_law__546 : decode cL_law_ 546 = .ok (.iaload, 1) := by decide +kernel
theorem dL_law__547 : decode cL_law_ 547 = .ok (.invokevirtual 116, 3) := by decide +kernel
theorem dL_law__550 : decode cL_law_ 550 = .ok (.pop, 1) := by decide +kernel
theorem dL_law__551 : decode cL_law_ 551 = .ok (.goto 613, 3) := by decide +kernel
theorem dL_law__554 : decode cL_law_ 554 = .ok (.aload_n 1, 1) := by decide +kernel
theorem dL_law__555 : decode cL_law_ 555 = .ok (.aload_n 0, 1) := by decide +kernel
theorem dL_law__556 : decode cL_law_ 556 = .ok (.iload 4, 2) := by decide +kernel
theorem dL_law__558 : decode cL_law_ 558 = .ok (.iconst 1, 1) := by decide +kernel
theorem dL_law__559 : decode cL_law_ 559 = .ok (.iadd, 1) := by decide +kernel
theorem dL_law__560 : decode cL_law_ 560 = .ok (.iaload, 1) := by decide +kernel
theorem dL_law__561 : decode cL_law_ 561 = .ok (.aload_n 0, 1) := by decide +kernel
theorem dL_law__562 : decode cL_law_ 562 = .ok (.iload 4, 2) := by decide +kernel
theorem dL_law__564 : decode cL_law_ 564 = .ok (.iconst 2, 1) := by decide +kernel
theorem dL_law__565 : decode cL_law_ 565 = .ok (.iadd, 1) := by decide +kernel
theorem dL_law__566 : decode cL_law_ 566 = .ok (.iaload, 1) := by decide +kernel
theorem dL_law__567 : decode cL_law_ 567 = .ok (.aload_n 3, 1) := by decide +kernel
theorem dL_law__568 : decode cL_law_ 568 = .ok (.invokestatic 117, 3) := by decide +kernel
theorem dL_law__571 : decode cL_law_ 571 = .ok (.istore 5, 2) := by decide +kernel
theorem dL_law__573 : decode cL_law_ 573 = .ok (.aload_n 2, 1) := by decide +kernel
theorem dL_law__574 : decode cL_law_ 574 = .ok (.aload_n 0, 1) := by decide +kernel
theorem dL_law__575 : decode cL_law_ 575 = .ok (.iload 4, 2) := by decide +kernel
theorem dL_law__577 : decode cL_law_ 577 = .ok (.iconst 1, 1) := by decide +kernel
theorem dL_law__578 : decode cL_law_ 578 = .ok (.iadd, 1) := by decide +kernel
theorem dL_law__579 : decode cL_law_ 579 = .ok (.iaload, 1) := by decide +kernel
theorem dL_law__580 : decode cL_law_ 580 = .ok (.aload_n 0, 1) := by decide +kernel
theorem dL_law__581 : decode cL_law_ 581 = .ok (.iload 4, 2) := by decide +kernel
theorem dL_law__583 : decode cL_law_ 583 = .ok (.iconst 2, 1) := by decide +kernel
theorem dL_law__584 : decode cL_law_ 584 = .ok (.iadd, 1) := by decide +kernel
theorem dL_law__585 : decode cL_law_ 585 = .ok (.iaload, 1) := by decide +kernel
theorem dL_law__586 : decode cL_law_ 586 = .ok (.invokevirtual 119, 3) := by decide +kernel
theorem dL_law__589 : decode cL_law_ 589 = .ok (.istore 6, 2) := by decide +kernel
theorem dL_law__591 : decode cL_law_ 591 = .ok (.goto 573, 3) := by decide +kernel
theorem dL_law__594 : decode cL_law_ 594 = .ok (.aload_n 1, 1) := by decide +kernel
theorem dL_law__595 : decode cL_law_ 595 = .ok (.invokevirtual 120, 3) := by decide +kernel
theorem dL_law__598 : decode cL_law_ 598 = .ok (.aload_n 2, 1) := by decide +kernel
theorem dL_law__599 : decode cL_law_ 599 = .ok (.invokevirtual 124, 3) := by decide +kernel
theorem dL_law__602 : decode cL_law_ 602 = .ok (.if_icmp .eq 562, 3) := by decide +kernel
theorem dL_law__605 : decode cL_law_ 605 = .ok (.iconst 0, 1) := by decide +kernel
theorem dL_law__606 : decode cL_law_ 606 = .ok (.ireturn, 1) := by decide +kernel
theorem dL_law__607 : decode cL_law_ 607 = .ok (.aload_n 1, 1) := by decide +kernel
theorem dL_law__608 : decode cL_law_ 608 = .ok (.aload_n 0, 1) := by decide +kernel
theorem dL_law__609 : decode cL_law_ 609 = .ok (.iload 4, 2) := by decide +kernel
theorem dL_law__611 : decode cL_law_ 611 = .ok (.iconst 1, 1) := by decide +kernel
theorem dL_law__612 : decode cL_law_ 612 = .ok (.iadd, 1) := by decide +kernel
theorem dL_law__613 : decode cL_law_ 613 = .ok (.iaload, 1) := by decide +kernel
theorem dL_law__614 : decode cL_law_ 614 = .ok (.aload_n 0, 1) := by decide +kernel
theorem dL_law__615 : decode cL_law_ 615 = .ok (.iload 4, 2) := by decide +kernel
theorem dL_law__617 : decode cL_law_ 617 = .ok (.iconst 2, 1) := by decide +kernel
theorem dL_law__618 : decode cL_law_ 618 = .ok (.iadd, 1) := by decide +kernel
theorem dL_law__619 : decode cL_law_ 619 = .ok (.iaload, 1) := by decide +kernel
theorem dL_law__620 : decode cL_law_ 620 = .ok (.aload_n 0, 1) := by decide +kernel
theorem dL_law__621 : decode cL_law_ 621 = .ok (.iload 4, 2) := by decide +kernel
theorem dL_law__623 : decode cL_law_ 623 = .ok (.iconst 3, 1) := by decide +kernel
theorem dL_law__624 : decode cL_law_ 624 = .ok (.iadd, 1) := by decide +kernel
theorem dL_law__625 : decode cL_law_ 625 = .ok (.iaload, 1) := by decide +kernel
theorem dL_law__626 : decode cL_law_ 626 = .ok (.invokevirtual 125, 3) := by decide +kernel
theorem dL_law__629 : decode cL_law_ 629 = .ok (.pop, 1) := by decide +kernel
theorem dL_law__630 : decode cL_law_ 630 = .ok (.aload_n 2, 1) := by decide +kernel
theorem dL_law__631 : decode cL_law_ 631 = .ok (.aload_n 0, 1) := by decide +kernel
theorem dL_law__632 : decode cL_law_ 632 = .ok (.iload 4, 2) := by decide +kernel
theorem dL_law__634 : decode cL_law_ 634 = .ok (.iconst 1, 1) := by decide +kernel
theorem dL_law__635 : decode cL_law_ 635 = .ok (.iadd, 1) := by decide +kernel
theorem dL_law__636 : decode cL_law_ 636 = .ok (.iaload, 1) := by decide +kernel
theorem dL_law__637 : decode cL_law_ 637 = .ok (.aload_n 0, 1) := by decide +kernel
theorem dL_law__638 : decode cL_law_ 638 = .ok (.iload 4, 2) := by decide +kernel
theorem dL_law__640 : decode cL_law_ 640 = .ok (.iconst 2, 1) := by decide +kernel
theorem dL_law__641 : decode cL_law_ 641 = .ok (.iadd, 1) := by decide +kernel
theorem dL_law__642 : decode cL_law_ 642 = .ok (.iaload, 1) := by decide +kernel
theorem dL_law__643 : decode cL_law_ 643 = .ok (.aload_n 0, 1) := by decide +kernel
theorem dL_law__644 : decode cL_law_ 644 = .ok (.iload 4, 2) := by decide +kernel
theorem dL_law__646 : decode cL_law_ 646 = .ok (.iconst 3, 1) := by decide +kernel
theorem dL_law__647 : decode cL_law_ 647 = .ok (.iadd, 1) := by decide +kernel
theorem dL_law__648 : decode cL_law_ 648 = .ok (.iaload, 1) := by decide +kernel
theorem dL_law__649 : decode cL_law_ 649 = .ok (.invokevirtual 128, 3) := by decide +kernel
theorem dL_law__652 : decode cL_law_ 652 = .ok (.pop, 1) := by decide +kernel
theorem dL_law__653 : decode cL_law_ 653 = .ok (.goto 511, 3) := by decide +kernel
theorem dL_law__656 : decode cL_law_ 656 = .ok (.aload_n 1, 1) := by decide +kernel
theorem dL_law__657 : decode cL_law_ 657 = .ok (.aload_n 0, 1) := by decide +kernel
theorem dL_law__658 : decode cL_law_ 658 = .ok (.iload 4, 2) := by decide +kernel
theorem dL_law__660 : decode cL_law_ 660 = .ok (.iconst 1, 1) := by decide +kernel
theorem dL_law__661 : decode cL_law_ 661 = .ok (.iadd, 1) := by decide +kernel
theorem dL_law__662 : decode cL_law_ 662 = .ok (.iaload, 1) := by decide +kernel
theorem dL_law__663 : decode cL_law_ 663 = .ok (.aload_n 0, 1) := by decide +kernel
theorem dL_law__664 : decode cL_law_ 664 = .ok (.iload 4, 2) := by decide +kernel
theorem dL_law__666 : decode cL_law_ 666 = .ok (.iconst 2, 1) := by decide +kernel
theorem dL_law__667 : decode cL_law_ 667 = .ok (.iadd, 1) := by decide +kernel
theorem dL_law__668 : decode cL_law_ 668 = .ok (.iaload, 1) := by decide +kernel
theorem dL_law__669 : decode cL_law_ 669 = .ok (.aload_n 0, 1) := by decide +kernel
theorem dL_law__670 : decode cL_law_ 670 = .ok (.iload 4, 2) := by decide +kernel
theorem dL_law__672 : decode cL_law_ 672 = .ok (.iconst 3, 1) := by decide +kernel
theorem dL_law__673 : decode cL_law_ 673 = .ok (.iadd, 1) := by decide +kernel
theorem dL_law__674 : decode cL_law_ 674 = .ok (.iaload, 1) := by decide +kernel
theorem dL_law__675 : decode cL_law_ 675 = .ok (.aload_n 3, 1) := by decide +kernel
theorem dL_law__676 : decode cL_law_ 676 = .ok (.invokestatic 129, 3) := by decide +kernel
theorem dL_law__679 : decode cL_law_ 679 = .ok (.istore 5, 2) := by decide +kernel
theorem dL_law__681 : decode cL_law_ 681 = .ok (.aload_n 2, 1) := by decide +kernel
theorem dL_law__682 : decode cL_law_ 682 = .ok (.aload_n 0, 1) := by decide +kernel
theorem dL_law__683 : decode cL_law_ 683 = .ok (.iload 4, 2) := by decide +kernel
theorem dL_law__685 : decode cL_law_ 685 = .ok (.iconst 1, 1) := by decide +kernel
theorem dL_law__686 : decode cL_law_ 686 = .ok (.iadd, 1) := by decide +kernel
theorem dL_law__687 : decode cL_law_ 687 = .ok (.iaload, 1) := by decide +kernel
theorem dL_law__688 : decode cL_law_ 688 = .ok (.aload_n 0, 1) := by decide +kernel
theorem dL_law__689 : decode cL_law_ 689 = .ok (.iload 4, 2) := by decide +kernel
theorem dL_law__691 : decode cL_law_ 691 = .ok (.iconst 2, 1) := by decide +kernel
theorem dL_law__692 : decode cL_law_ 692 = .ok (.iadd, 1) := by decide +kernel
theorem dL_law__693 : decode cL_law_ 693 = .ok (.iaload, 1) := by decide +kernel
theorem dL_law__694 : decode cL_law_ 694 = .ok (.aload_n 0, 1) := by decide +kernel
theorem dL_law__695 : decode cL_law_ 695 = .ok (.iload 4, 2) := by decide +kernel
theorem dL_law__697 : decode cL_law_ 697 = .ok (.iconst 3, 1) := by decide +kernel
theorem dL_law__698 : decode cL_law_ 698 = .ok (.iadd, 1) := by decide +kernel
theorem dL_law__699 : decode cL_law_ 699 = .ok (.iaload, 1) := by decide +kernel
theorem dL_law__700 : decode cL_law_ 700 = .ok (.invokevirtual 131, 3) := by decide +kernel
theorem dL_law__703 : decode cL_law_ 703 = .ok (.istore 6, 2) := by decide +kernel
theorem dL_law__705 : decode cL_law_ 705 = .ok (.goto 459, 3) := by decide +kernel
theorem dL_law__708 : decode cL_law_ 708 = .ok (.aload_n 1, 1) := by decide +kernel
theorem dL_law__709 : decode cL_law_ 709 = .ok (.aload_n 0, 1) := by decide +kernel
theorem dL_law__710 : decode cL_law_ 710 = .ok (.iload 4, 2) := by decide +kernel
theorem dL_law__712 : decode cL_law_ 712 = .ok (.iconst 1, 1) := by decide +kernel
theorem dL_law__713 : decode cL_law_ 713 = .ok (.iadd, 1) := by decide +kernel
theorem dL_law__714 : decode cL_law_ 714 = .ok (.iaload, 1) := by decide +kernel
theorem dL_law__715 : decode cL_law_ 715 = .ok (.aload_n 3, 1) := by decide +kernel
theorem dL_law__716 : decode cL_law_ 716 = .ok (.invokestatic 132, 3) := by decide +kernel
theorem dL_law__719 : decode cL_law_ 719 = .ok (.istore 5, 2) := by decide +kernel
theorem dL_law__721 : decode cL_law_ 721 = .ok (.aload_n 2, 1) := by decide +kernel
theorem dL_law__722 : decode cL_law_ 722 = .ok (.aload_n 0, 1) := by decide +kernel
theorem dL_law__723 : decode cL_law_ 723 = .ok (.iload 4, 2) := by decide +kernel
theorem dL_law__725 : decode cL_law_ 725 = .ok (.iconst 1, 1) := by decide +kernel
theorem dL_law__726 : decode cL_law_ 726 = .ok (.iadd, 1) := by decide +kernel
theorem dL_law__727 : decode cL_law_ 727 = .ok (.iaload, 1) := by decide +kernel
theorem dL_law__728 : decode cL_law_ 728 = .ok (.invokevirtual 135, 3) := by decide +kernel
theorem dL_law__731 : decode cL_law_ 731 = .ok (.istore 6, 2) := by decide +kernel
theorem dL_law__733 : decode cL_law_ 733 = .ok (.goto 431, 3) := by decide +kernel
theorem dL_law__736 : decode cL_law_ 736 = .ok (.aload_n 1, 1) := by decide +kernel
theorem dL_law__737 : decode cL_law_ 737 = .ok (.aload_n 0, 1) := by decide +kernel
theorem dL_law__738 : decode cL_law_ 738 = .ok (.iload 4, 2) := by decide +kernel
theorem dL_law__740 : decode cL_law_ 740 = .ok (.iconst 1, 1) := by decide +kernel
theorem dL_law__741 : decode cL_law_ 741 = .ok (.iadd, 1) := by decide +kernel
theorem dL_law__742 : decode cL_law_ 742 = .ok (.iaload, 1) := by decide +kernel
theorem dL_law__743 : decode cL_law_ 743 = .ok (.aload_n 0, 1) := by decide +kernel
theorem dL_law__744 : decode cL_law_ 744 = .ok (.iload 4, 2) := by decide +kernel
theorem dL_law__746 : decode cL_law_ 746 = .ok (.iconst 2, 1) := by decide +kernel
theorem dL_law__747 : decode cL_law_ 747 = .ok (.iadd, 1) := by decide +kernel
theorem dL_law__748 : decode cL_law_ 748 = .ok (.iaload, 1) := by decide +kernel
theorem dL_law__749 : decode cL_law_ 749 = .ok (.aload_n 0, 1) := by decide +kernel
theorem dL_law__750 : decode cL_law_ 750 = .ok (.iload 4, 2) := by decide +kernel
theorem dL_law__752 : decode cL_law_ 752 = .ok (.iconst 3, 1) := by decide +kernel
theorem dL_law__753 : decode cL_law_ 753 = .ok (.iadd, 1) := by decide +kernel
theorem dL_law__754 : decode cL_law_ 754 = .ok (.iaload, 1) := by decide +kernel
theorem dL_law__755 : decode cL_law_ 755 = .ok (.aload_n 0, 1) := by decide +kernel
theorem dL_law__756 : decode cL_law_ 756 = .ok (.iload 4, 2) := by decide +kernel
theorem dL_law__758 : decode cL_law_ 758 = .ok (.iconst 4, 1) := by decide +kernel
theorem dL_law__759 : decode cL_law_ 759 = .ok (.iadd, 1) := by decide +kernel
theorem dL_law__760 : decode cL_law_ 760 = .ok (.iaload, 1) := by decide +kernel
theorem dL_law__761 : decode cL_law_ 761 = .ok (.aload_n 3, 1) := by decide +kernel
theorem dL_law__762 : decode cL_law_ 762 = .ok (.invokestatic 136, 3) := by decide +kernel
theorem dL_law__765 : decode cL_law_ 765 = .ok (.istore 5, 2) := by decide +kernel
theorem dL_law__767 : decode cL_law_ 767 = .ok (.aload_n 2, 1) := by decide +kernel
theorem dL_law__768 : decode cL_law_ 768 = .ok (.aload_n 0, 1) := by decide +kernel
theorem dL_law__769 : decode cL_law_ 769 = .ok (.iload 4, 2) := by decide +kernel
theorem dL_law__771 : decode cL_law_ 771 = .ok (.iconst 1, 1) := by decide +kernel
theorem dL_law__772 : decode cL_law_ 772 = .ok (.iadd, 1) := by decide +kernel
theorem dL_law__773 : decode cL_law_ 773 = .ok (.iaload, 1) := by decide +kernel
theorem dL_law__774 : decode cL_law_ 774 = .ok (.aload_n 0, 1) := by decide +kernel
theorem dL_law__775 : decode cL_law_ 775 = .ok (.iload 4, 2) := by decide +kernel
theorem dL_law__777 : decode cL_law_ 777 = .ok (.iconst 2, 1) := by decide +kernel
theorem dL_law__778 : decode cL_law_ 778 = .ok (.iadd, 1) := by decide +kernel
theorem dL_law__779 : decode cL_law_ 779 = .ok (.iaload, 1) := by decide +kernel
theorem dL_law__780 : decode cL_law_ 780 = .ok (.aload_n 0, 1) := by decide +kernel
theorem dL_law__781 : decode cL_law_ 781 = .ok (.iload 4, 2) := by decide +kernel
theorem dL_law__783 : decode cL_law_ 783 = .ok (.iconst 3, 1) := by decide +kernel
theorem dL_law__784 : decode cL_law_ 784 = .ok (.iadd, 1) := by decide +kernel
theorem dL_law__785 : decode cL_law_ 785 = .ok (.iaload, 1) := by decide +kernel
theorem dL_law__786 : decode cL_law_ 786 = .ok (.aload_n 0, 1) := by decide +kernel
theorem dL_law__787 : decode cL_law_ 787 = .ok (.iload 4, 2) := by decide +kernel
theorem dL_law__789 : decode cL_law_ 789 = .ok (.iconst 4, 1) := by decide +kernel
theorem dL_law__790 : decode cL_law_ 790 = .ok (.iadd, 1) := by decide +kernel
theorem dL_law__791 : decode cL_law_ 791 = .ok (.iaload, 1) := by decide +kernel
theorem dL_law__792 : decode cL_law_ 792 = .ok (.invokevirtual 139, 3) := by decide +kernel
theorem dL_law__795 : decode cL_law_ 795 = .ok (.istore 6, 2) := by decide +kernel
theorem dL_law__797 : decode cL_law_ 797 = .ok (.goto 367, 3) := by decide +kernel
theorem dL_law__800 : decode cL_law_ 800 = .ok (.aload_n 1, 1) := by decide +kernel
theorem dL_law__801 : decode cL_law_ 801 = .ok (.aload_n 0, 1) := by decide +kernel
theorem dL_law__802 : decode cL_law_ 802 = .ok (.iload 4, 2) := by decide +kernel
theorem dL_law__804 : decode cL_law_ 804 = .ok (.iconst 1, 1) := by decide +kernel
theorem dL_law__805 : decode cL_law_ 805 = .ok (.iadd, 1) := by decide +kernel
theorem dL_law__806 : decode cL_law_ 806 = .ok (.iaload, 1) := by decide +kernel
theorem dL_law__807 : decode cL_law_ 807 = .ok (.aload_n 3, 1) := by decide +kernel
theorem dL_law__808 : decode cL_law_ 808 = .ok (.invokestatic 140, 3) := by decide +kernel
theorem dL_law__811 : decode cL_law_ 811 = .ok (.istore 5, 2) := by decide +kernel
theorem dL_law__813 : decode cL_law_ 813 = .ok (.aload_n 2, 1) := by decide +kernel
theorem dL_law__814 : decode cL_law_ 814 = .ok (.aload_n 0, 1) := by decide +kernel
theorem dL_law__815 : decode cL_law_ 815 = .ok (.iload 4, 2) := by decide +kernel
theorem dL_law__817 : decode cL_law_ 817 = .ok (.iconst 1, 1) := by decide +kernel
theorem dL_law__818 : decode cL_law_ 818 = .ok (.iadd, 1) := by decide +kernel
theorem dL_law__819 : decode cL_law_ 819 = .ok (.iaload, 1) := by decide +kernel
theorem dL_law__820 : decode cL_law_ 820 = .ok (.invokevirtual 142, 3) := by decide +kernel
theorem dL_law__823 : decode cL_law_ 823 = .ok (.istore 6, 2) := by decide +kernel
theorem dL_law__825 : decode cL_law_ 825 = .ok (.goto 339, 3) := by decide +kernel
theorem dL_law__828 : decode cL_law_ 828 = .ok (.aload_n 1, 1) := by decide +kernel
theorem dL_law__829 : decode cL_law_ 829 = .ok (.aload_n 0, 1) := by decide +kernel
theorem dL_law__830 : decode cL_law_ 830 = .ok (.iload 4, 2) := by decide +kernel
theorem dL_law__832 : decode cL_law_ 832 = .ok (.iconst 1, 1) := by decide +kernel
theorem dL_law__833 : decode cL_law_ 833 = .ok (.iadd, 1) := by decide +kernel
theorem dL_law__834 : decode cL_law_ 834 = .ok (.iaload, 1) := by decide +kernel
theorem dL_law__835 : decode cL_law_ 835 = .ok (.aload_n 0, 1) := by decide +kernel
theorem dL_law__836 : decode cL_law_ 836 = .ok (.iload 4, 2) := by decide +kernel
theorem dL_law__838 : decode cL_law_ 838 = .ok (.iconst 2, 1) := by decide +kernel
theorem dL_law__839 : decode cL_law_ 839 = .ok (.iadd, 1) := by decide +kernel
theorem dL_law__840 : decode cL_law_ 840 = .ok (.iaload, 1) := by decide +kernel
theorem dL_law__841 : decode cL_law_ 841 = .ok (.aload_n 3, 1) := by decide +kernel
theorem dL_law__842 : decode cL_law_ 842 = .ok (.invokestatic 143, 3) := by decide +kernel
theorem dL_law__845 : decode cL_law_ 845 = .ok (.istore 5, 2) := by decide +kernel
theorem dL_law__847 : decode cL_law_ 847 = .ok (.aload_n 2, 1) := by decide +kernel
theorem dL_law__848 : decode cL_law_ 848 = .ok (.aload_n 0, 1) := by decide +kernel
theorem dL_law__849 : decode cL_law_ 849 = .ok (.iload 4, 2) := by decide +kernel
theorem dL_law__851 : decode cL_law_ 851 = .ok (.iconst 1, 1) := by decide +kernel
theorem dL_law__852 : decode cL_law_ 852 = .ok (.iadd, 1) := by decide +kernel
theorem dL_law__853 : decode cL_law_ 853 = .ok (.iaload, 1) := by decide +kernel
theorem dL_law__854 : decode cL_law_ 854 = .ok (.aload_n 0, 1) := by decide +kernel
theorem dL_law__855 : decode cL_law_ 855 = .ok (.iload 4, 2) := by decide +kernel
theorem dL_law__857 : decode cL_law_ 857 = .ok (.iconst 2, 1) := by decide +kernel
theorem dL_law__858 : decode cL_law_ 858 = .ok (.iadd, 1) := by decide +kernel
theorem dL_law__859 : decode cL_law_ 859 = .ok (.iaload, 1) := by decide +kernel
theorem dL_law__860 : decode cL_law_ 860 = .ok (.invokevirtual 145, 3) := by decide +kernel
theorem dL_law__863 : decode cL_law_ 863 = .ok (.istore 6, 2) := by decide +kernel
theorem dL_law__865 : decode cL_law_ 865 = .ok (.goto 299, 3) := by decide +kernel
theorem dL_law__868 : decode cL_law_ 868 = .ok (.aload_n 1, 1) := by decide +kernel
theorem dL_law__869 : decode cL_law_ 869 = .ok (.aload_n 0, 1) := by decide +kernel
theorem dL_law__870 : decode cL_law_ 870 = .ok (.iload 4, 2) := by decide +kernel
theorem dL_law__872 : decode cL_law_ 872 = .ok (.iconst 1, 1) := by decide +kernel
theorem dL_law__873 : decode cL_law_ 873 = .ok (.iadd, 1) := by decide +kernel
theorem dL_law__874 : decode cL_law_ 874 = .ok (.iaload, 1) := by decide +kernel
theorem dL_law__875 : decode cL_law_ 875 = .ok (.aload_n 0, 1) := by decide +kernel
theorem dL_law__876 : decode cL_law_ 876 = .ok (.iload 4, 2) := by decide +kernel
theorem dL_law__878 : decode cL_law_ 878 = .ok (.iconst 2, 1) := by decide +kernel
theorem dL_law__879 : decode cL_law_ 879 = .ok (.iadd, 1) := by decide +kernel
theorem dL_law__880 : decode cL_law_ 880 = .ok (.iaload, 1) := by decide +kernel
theorem dL_law__881 : decode cL_law_ 881 = .ok (.aload_n 0, 1) := by decide +kernel
theorem dL_law__882 : decode cL_law_ 882 = .ok (.iload 4, 2) := by decide +kernel
theorem dL_law__884 : decode cL_law_ 884 = .ok (.iconst 3, 1) := by decide +kernel
theorem dL_law__885 : decode cL_law_ 885 = .ok (.iadd, 1) := by decide +kernel
theorem dL_law__886 : decode cL_law_ 886 = .ok (.iaload, 1) := by decide +kernel
theorem dL_law__887 : decode cL_law_ 887 = .ok (.aload_n 3, 1) := by decide +kernel
theorem dL_law__888 : decode cL_law_ 888 = .ok (.invokestatic 146, 3) := by decide +kernel
theorem dL_law__891 : decode cL_law_ 891 = .ok (.istore 5, 2) := by decide +kernel
theorem dL_law__893 : decode cL_law_ 893 = .ok (.aload_n 2, 1) := by decide +kernel
theorem dL_law__894 : decode cL_law_ 894 = .ok (.aload_n 0, 1) := by decide +kernel
theorem dL_law__895 : decode cL_law_ 895 = .ok (.iload 4, 2) := by decide +kernel
theorem dL_law__897 : decode cL_law_ 897 = .ok (.iconst 1, 1) := by decide +kernel
theorem dL_law__898 : decode cL_law_ 898 = .ok (.iadd, 1) := by decide +kernel
theorem dL_law__899 : decode cL_law_ 899 = .ok (.iaload, 1) := by decide +kernel
theorem dL_law__900 : decode cL_law_ 900 = .ok (.aload_n 0, 1) := by decide +kernel
theorem dL_law__901 : decode cL_law_ 901 = .ok (.iload 4, 2) := by decide +kernel
theorem dL_law__903 : decode cL_law_ 903 = .ok (.iconst 2, 1) := by decide +kernel
theorem dL_law__904 : decode cL_law_ 904 = .ok (.iadd, 1) := by decide +kernel
theorem dL_law__905 : decode cL_law_ 905 = .ok (.iaload, 1) := by decide +kernel
theorem dL_law__906 : decode cL_law_ 906 = .ok (.aload_n 0, 1) := by decide +kernel
theorem dL_law__907 : decode cL_law_ 907 = .ok (.iload 4, 2) := by decide +kernel
theorem dL_law__909 : decode cL_law_ 909 = .ok (.iconst 3, 1) := by decide +kernel
theorem dL_law__910 : decode cL_law_ 910 = .ok (.iadd, 1) := by decide +kernel
theorem dL_law__911 : decode cL_law_ 911 = .ok (.iaload, 1) := by decide +kernel
theorem dL_law__912 : decode cL_law_ 912 = .ok (.invokevirtual 148, 3) := by decide +kernel
theorem dL_law__915 : decode cL_law_ 915 = .ok (.istore 6, 2) := by decide +kernel
theorem dL_law__917 : decode cL_law_ 917 = .ok (.goto 247, 3) := by decide +kernel
theorem dL_law__920 : decode cL_law_ 920 = .ok (.aload_n 1, 1) := by decide +kernel
theorem dL_law__921 : decode cL_law_ 921 = .ok (.aload_n 0, 1) := by decide +kernel
theorem dL_law__922 : decode cL_law_ 922 = .ok (.iload 4, 2) := by decide +kernel
theorem dL_law__924 : decode cL_law_ 924 = .ok (.iconst 1, 1) := by decide +kernel
theorem dL_law__925 : decode cL_law_ 925 = .ok (.iadd, 1) := by decide +kernel
theorem dL_law__926 : decode cL_law_ 926 = .ok (.iaload, 1) := by decide +kernel
theorem dL_law__927 : decode cL_law_ 927 = .ok (.aload_n 0, 1) := by decide +kernel
theorem dL_law__928 : decode cL_law_ 928 = .ok (.iload 4, 2) := by decide +kernel
theorem dL_law__930 : decode cL_law_ 930 = .ok (.iconst 2, 1) := by decide +kernel
theorem dL_law__931 : decode cL_law_ 931 = .ok (.iadd, 1) := by decide +kernel
theorem dL_law__932 : decode cL_law_ 932 = .ok (.iaload, 1) := by decide +kernel
theorem dL_law__933 : decode cL_law_ 933 = .ok (.aload_n 0, 1) := by decide +kernel
theorem dL_law__934 : decode cL_law_ 934 = .ok (.iload 4, 2) := by decide +kernel
theorem dL_law__936 : decode cL_law_ 936 = .ok (.iconst 3, 1) := by decide +kernel
theorem dL_law__937 : decode cL_law_ 937 = .ok (.iadd, 1) := by decide +kernel
theorem dL_law__938 : decode cL_law_ 938 = .ok (.iaload, 1) := by decide +kernel
theorem dL_law__939 : decode cL_law_ 939 = .ok (.aload_n 3, 1) := by decide +kernel
theorem dL_law__940 : decode cL_law_ 940 = .ok (.invokestatic 149, 3) := by decide +kernel
theorem dL_law__943 : decode cL_law_ 943 = .ok (.istore 5, 2) := by decide +kernel
theorem dL_law__945 : decode cL_law_ 945 = .ok (.aload_n 2, 1) := by decide +kernel
theorem dL_law__946 : decode cL_law_ 946 = .ok (.aload_n 0, 1) := by decide +kernel
theorem dL_law__947 : decode cL_law_ 947 = .ok (.iload 4, 2) := by decide +kernel
theorem dL_law__949 : decode cL_law_ 949 = .ok (.iconst 1, 1) := by decide +kernel
theorem dL_law__950 : decode cL_law_ 950 = .ok (.iadd, 1) := by decide +kernel
theorem dL_law__951 : decode cL_law_ 951 = .ok (.iaload, 1) := by decide +kernel
theorem dL_law__952 : decode cL_law_ 952 = .ok (.aload_n 0, 1) := by decide +kernel
theorem dL_law__953 : decode cL_law_ 953 = .ok (.iload 4, 2) := by decide +kernel
theorem dL_law__955 : decode cL_law_ 955 = .ok (.iconst 2, 1) := by decide +kernel
theorem dL_law__956 : decode cL_law_ 956 = .ok (.iadd, 1) := by decide +kernel
theorem dL_law__957 : decode cL_law_ 957 = .ok (.iaload, 1) := by decide +kernel
theorem dL_law__958 : decode cL_law_ 958 = .ok (.aload_n 0, 1) := by decide +kernel
theorem dL_law__959 : decode cL_law_ 959 = .ok (.iload 4, 2) := by decide +kernel
theorem dL_law__961 : decode cL_law_ 961 = .ok (.iconst 3, 1) := by decide +kernel
theorem dL_law__962 : decode cL_law_ 962 = .ok (.iadd, 1) := by decide +kernel
theorem dL_law__963 : decode cL_law_ 963 = .ok (.iaload, 1) := by decide +kernel
theorem dL_law__964 : decode cL_law_ 964 = .ok (.invokevirtual 151, 3) := by decide +kernel
theorem dL_law__967 : decode cL_law_ 967 = .ok (.istore 6, 2) := by decide +kernel
theorem dL_law__969 : decode cL_law_ 969 = .ok (.goto 195, 3) := by decide +kernel
theorem dL_law__972 : decode cL_law_ 972 = .ok (.aload_n 1, 1) := by decide +kernel
theorem dL_law__973 : decode cL_law_ 973 = .ok (.aload_n 0, 1) := by decide +kernel
theorem dL_law__974 : decode cL_law_ 974 = .ok (.iload 4, 2) := by decide +kernel
theorem dL_law__976 : decode cL_law_ 976 = .ok (.iconst 1, 1) := by decide +kernel
theorem dL_law__977 : decode cL_law_ 977 = .ok (.iadd, 1) := by decide +kernel
theorem dL_law__978 : decode cL_law_ 978 = .ok (.iaload, 1) := by decide +kernel
theorem dL_law__979 : decode cL_law_ 979 = .ok (.aload_n 0, 1) := by decide +kernel
theorem dL_law__980 : decode cL_law_ 980 = .ok (.iload 4, 2) := by decide +kernel
theorem dL_law__982 : decode cL_law_ 982 = .ok (.iconst 2, 1) := by decide +kernel
theorem dL_law__983 : decode cL_law_ 983 = .ok (.iadd, 1) := by decide +kernel
theorem dL_law__984 : decode cL_law_ 984 = .ok (.iaload, 1) := by decide +kernel
theorem dL_law__985 : decode cL_law_ 985 = .ok (.aload_n 3, 1) := by decide +kernel
theorem dL_law__986 : decode cL_law_ 986 = .ok (.invokestatic 152, 3) := by decide +kernel
theorem dL_law__989 : decode cL_law_ 989 = .ok (.istore 5, 2) := by decide +kernel
theorem dL_law__991 : decode cL_law_ 991 = .ok (.aload_n 2, 1) := by decide +kernel
theorem dL_law__992 : decode cL_law_ 992 = .ok (.aload_n 0, 1) := by decide +kernel
theorem dL_law__993 : decode cL_law_ 993 = .ok (.iload 4, 2) := by decide +kernel
theorem dL_law__995 : decode cL_law_ 995 = .ok (.iconst 1, 1) := by decide +kernel
theorem dL_law__996 : decode cL_law_ 996 = .ok (.iadd, 1) := by decide +kernel
theorem dL_law__997 : decode cL_law_ 997 = .ok (.iaload, 1) := by decide +kernel
theorem dL_law__998 : decode cL_law_ 998 = .ok (.aload_n 0, 1) := by decide +kernel
theorem dL_law__999 : decode cL_law_ 999 = .ok (.iload 4, 2) := by decide +kernel
theorem dL_law__1001 : decode cL_law_ 1001 = .ok (.iconst 2, 1) := by decide +kernel
theorem dL_law__1002 : decode cL_law_ 1002 = .ok (.iadd, 1) := by decide +kernel
theorem dL_law__1003 : decode cL_law_ 1003 = .ok (.iaload, 1) := by decide +kernel
theorem dL_law__1004 : decode cL_law_ 1004 = .ok (.invokevirtual 154, 3) := by decide +kernel
theorem dL_law__1007 : decode cL_law_ 1007 = .ok (.istore 6, 2) := by decide +kernel
theorem dL_law__1009 : decode cL_law_ 1009 = .ok (.goto 155, 3) := by decide +kernel
theorem dL_law__1012 : decode cL_law_ 1012 = .ok (.aload_n 1, 1) := by decide +kernel
theorem dL_law__1013 : decode cL_law_ 1013 = .ok (.aload_n 0, 1) := by decide +kernel
theorem dL_law__1014 : decode cL_law_ 1014 = .ok (.iload 4, 2) := by decide +kernel
theorem dL_law__1016 : decode cL_law_ 1016 = .ok (.iconst 1, 1) := by decide +kernel
theorem dL_law__1017 : decode cL_law_ 1017 = .ok (.iadd, 1) := by decide +kernel
theorem dL_law__1018 : decode cL_law_ 1018 = .ok (.iaload, 1) := by decide +kernel
theorem dL_law__1019 : decode cL_law_ 1019 = .ok (.aload_n 0, 1) := by decide +kernel
theorem dL_law__1020 : decode cL_law_ 1020 = .ok (.iload 4, 2) := by decide +kernel
theorem dL_law__1022 : decode cL_law_ 1022 = .ok (.iconst 2, 1) := by decide +kernel
theorem dL_law__1023 : decode cL_law_ 1023 = .ok (.iadd, 1) := by decide +kernel
theorem dL_law__1024 : decode cL_law_ 1024 = .ok (.iaload, 1) := by decide +kernel
theorem dL_law__1025 : decode cL_law_ 1025 = .ok (.aload_n 3, 1) := by decide +kernel
theorem dL_law__1026 : decode cL_law_ 1026 = .ok (.invokestatic 155, 3) := by decide +kernel
theorem dL_law__1029 : decode cL_law_ 1029 = .ok (.istore 5, 2) := by decide +kernel
theorem dL_law__1031 : decode cL_law_ 1031 = .ok (.aload_n 2, 1) := by decide +kernel
theorem dL_law__1032 : decode cL_law_ 1032 = .ok (.aload_n 0, 1) := by decide +kernel
theorem dL_law__1033 : decode cL_law_ 1033 = .ok (.iload 4, 2) := by decide +kernel
theorem dL_law__1035 : decode cL_law_ 1035 = .ok (.iconst 1, 1) := by decide +kernel
theorem dL_law__1036 : decode cL_law_ 1036 = .ok (.iadd, 1) := by decide +kernel
theorem dL_law__1037 : decode cL_law_ 1037 = .ok (.iaload, 1) := by decide +kernel
theorem dL_law__1038 : decode cL_law_ 1038 = .ok (.aload_n 0, 1) := by decide +kernel
theorem dL_law__1039 : decode cL_law_ 1039 = .ok (.iload 4, 2) := by decide +kernel
theorem dL_law__1041 : decode cL_law_ 1041 = .ok (.iconst 2, 1) := by decide +kernel
theorem dL_law__1042 : decode cL_law_ 1042 = .ok (.iadd, 1) := by decide +kernel
theorem dL_law__1043 : decode cL_law_ 1043 = .ok (.iaload, 1) := by decide +kernel
theorem dL_law__1044 : decode cL_law_ 1044 = .ok (.invokevirtual 157, 3) := by decide +kernel
theorem dL_law__1047 : decode cL_law_ 1047 = .ok (.istore 6, 2) := by decide +kernel
theorem dL_law__1049 : decode cL_law_ 1049 = .ok (.goto 115, 3) := by decide +kernel
theorem dL_law__1052 : decode cL_law_ 1052 = .ok (.aload_n 1, 1) := by decide +kernel
theorem dL_law__1053 : decode cL_law_ 1053 = .ok (.aload_n 0, 1) := by decide +kernel
theorem dL_law__1054 : decode cL_law_ 1054 = .ok (.iload 4, 2) := by decide +kernel
theorem dL_law__1056 : decode cL_law_ 1056 = .ok (.iconst 1, 1) := by decide +kernel
theorem dL_law__1057 : decode cL_law_ 1057 = .ok (.iadd, 1) := by decide +kernel
theorem dL_law__1058 : decode cL_law_ 1058 = .ok (.iaload, 1) := by decide +kernel
theorem dL_law__1059 : decode cL_law_ 1059 = .ok (.aload_n 3, 1) := by decide +kernel
theorem dL_law__1060 : decode cL_law_ 1060 = .ok (.invokestatic 158, 3) := by decide +kernel
theorem dL_law__1063 : decode cL_law_ 1063 = .ok (.istore 5, 2) := by decide +kernel
theorem dL_law__1065 : decode cL_law_ 1065 = .ok (.aload_n 2, 1) := by decide +kernel
theorem dL_law__1066 : decode cL_law_ 1066 = .ok (.aload_n 0, 1) := by decide +kernel
theorem dL_law__1067 : decode cL_law_ 1067 = .ok (.iload 4, 2) := by decide +kernel
theorem dL_law__1069 : decode cL_law_ 1069 = .ok (.iconst 1, 1) := by decide +kernel
theorem dL_law__1070 : decode cL_law_ 1070 = .ok (.iadd, 1) := by decide +kernel
theorem dL_law__1071 : decode cL_law_ 1071 = .ok (.iaload, 1) := by decide +kernel
theorem dL_law__1072 : decode cL_law_ 1072 = .ok (.invokevirtual 160, 3) := by decide +kernel
theorem dL_law__1075 : decode cL_law_ 1075 = .ok (.lstore 6, 2) := by decide +kernel
theorem dL_law__1077 : decode cL_law_ 1077 = .ok (.goto 87, 3) := by decide +kernel
theorem dL_law__1080 : decode cL_law_ 1080 = .ok (.aload_n 1, 1) := by decide +kernel
theorem dL_law__1081 : decode cL_law_ 1081 = .ok (.aload_n 0, 1) := by decide +kernel
theorem dL_law__1082 : decode cL_law_ 1082 = .ok (.iload 4, 2) := by decide +kernel
theorem dL_law__1084 : decode cL_law_ 1084 = .ok (.iconst 1, 1) := by decide +kernel
theorem dL_law__1085 : decode cL_law_ 1085 = .ok (.iadd, 1) := by decide +kernel
theorem dL_law__1086 : decode cL_law_ 1086 = .ok (.iaload, 1) := by decide +kernel
theorem dL_law__1087 : decode cL_law_ 1087 = .ok (.aload_n 3, 1) := by decide +kernel
theorem dL_law__1088 : decode cL_law_ 1088 = .ok (.invokestatic 161, 3) := by decide +kernel
theorem dL_law__1091 : decode cL_law_ 1091 = .ok (.istore 5, 2) := by decide +kernel
theorem dL_law__1093 : decode cL_law_ 1093 = .ok (.aload_n 2, 1) := by decide +kernel
theorem dL_law__1094 : decode cL_law_ 1094 = .ok (.aload_n 0, 1) := by decide +kernel
theorem dL_law__1095 : decode cL_law_ 1095 = .ok (.iload 4, 2) := by decide +kernel
theorem dL_law__1097 : decode cL_law_ 1097 = .ok (.iconst 1, 1) := by decide +kernel
theorem dL_law__1098 : decode cL_law_ 1098 = .ok (.iadd, 1) := by decide +kernel
theorem dL_law__1099 : decode cL_law_ 1099 = .ok (.iaload, 1) := by decide +kernel
theorem dL_law__1100 : decode cL_law_ 1100 = .ok (.invokevirtual 163, 3) := by decide +kernel
theorem dL_law__1103 : decode cL_law_ 1103 = .ok (.istore 6, 2) := by decide +kernel
theorem dL_law__1105 : decode cL_law_ 1105 = .ok (.goto 59, 3) := by decide +kernel
theorem dL_law__1108 : decode cL_law_ 1108 = .ok (.aload_n 1, 1) := by decide +kernel
theorem dL_law__1109 : decode cL_law_ 1109 = .ok (.aload_n 0, 1) := by decide +kernel
theorem dL_law__1110 : decode cL_law_ 1110 = .ok (.iload 4, 2) := by decide +kernel
theorem dL_law__1112 : decode cL_law_ 1112 = .ok (.iconst 1, 1) := by decide +kernel
theorem dL_law__1113 : decode cL_law_ 1113 = .ok (.iadd, 1) := by decide +kernel
theorem dL_law__1114 : decode cL_law_ 1114 = .ok (.iaload, 1) := by decide +kernel
theorem dL_law__1115 : decode cL_law_ 1115 = .ok (.aload_n 3, 1) := by decide +kernel
theorem dL_law__1116 : decode cL_law_ 1116 = .ok (.invokestatic 164, 3) := by decide +kernel
theorem dL_law__1119 : decode cL_law_ 1119 = .ok (.istore 5, 2) := by decide +kernel
theorem dL_law__1121 : decode cL_law_ 1121 = .ok (.aload_n 2, 1) := by decide +kernel
theorem dL_law__1122 : decode cL_law_ 1122 = .ok (.aload_n 0, 1) := by decide +kernel
theorem dL_law__1123 : decode cL_law_ 1123 = .ok (.iload 4, 2) := by decide +kernel
theorem dL_law__1125 : decode cL_law_ 1125 = .ok (.iconst 1, 1) := by decide +kernel
theorem dL_law__1126 : decode cL_law_ 1126 = .ok (.iadd, 1) := by decide +kernel
theorem dL_law__1127 : decode cL_law_ 1127 = .ok (.iaload, 1) := by decide +kernel
theorem dL_law__1128 : decode cL_law_ 1128 = .ok (.invokevirtual 166, 3) := by decide +kernel
theorem dL_law__1131 : decode cL_law_ 1131 = .ok (.lstore 6, 2) := by decide +kernel
theorem dL_law__1133 : decode cL_law_ 1133 = .ok (.goto 31, 3) := by decide +kernel
theorem dL_law__1136 : decode cL_law_ 1136 = .ok (.aload_n 1, 1) := by decide +kernel
theorem dL_law__1137 : decode cL_law_ 1137 = .ok (.aload_n 0, 1) := by decide +kernel
theorem dL_law__1138 : decode cL_law_ 1138 = .ok (.iload 4, 2) := by decide +kernel
theorem dL_law__1140 : decode cL_law_ 1140 = .ok (.iconst 1, 1) := by decide +kernel
theorem dL_law__1141 : decode cL_law_ 1141 = .ok (.iadd, 1) := by decide +kernel
theorem dL_law__1142 : decode cL_law_ 1142 = .ok (.iaload, 1) := by decide +kernel
theorem dL_law__1143 : decode cL_law_ 1143 = .ok (.aload_n 3, 1) := by decide +kernel
theorem dL_law__1144 : decode cL_law_ 1144 = .ok (.invokestatic 167, 3) := by decide +kernel
theorem dL_law__1147 : decode cL_law_ 1147 = .ok (.istore 5, 2) := by decide +kernel
theorem dL_law__1149 : decode cL_law_ 1149 = .ok (.aload_n 2, 1) := by decide +kernel
theorem dL_law__1150 : decode cL_law_ 1150 = .ok (.aload_n 0, 1) := by decide +kernel
theorem dL_law__1151 : decode cL_law_ 1151 = .ok (.iload 4, 2) := by decide +kernel
theorem dL_law__1153 : decode cL_law_ 1153 = .ok (.iconst 1, 1) := by decide +kernel
theorem dL_law__1154 : decode cL_law_ 1154 = .ok (.iadd, 1) := by decide +kernel
theorem dL_law__1155 : decode cL_law_ 1155 = .ok (.iaload, 1) := by decide +kernel
theorem dL_law__1156 : decode cL_law_ 1156 = .ok (.invokevirtual 169, 3) := by decide +kernel
theorem dL_law__1159 : decode cL_law_ 1159 = .ok (.istore 6, 2) := by decide +kernel
theorem dL_law__1161 : decode cL_law_ 1161 = .ok (.goto 3, 3) := by decide +kernel
theorem dL_law__1164 : decode cL_law_ 1164 = .ok (.iinc 4 6, 3) := by decide +kernel
theorem dL_law__1167 : decode cL_law_ 1167 = .ok (.goto (-1144), 3) := by decide +kernel
theorem dL_law__1170 : decode cL_law_ 1170 = .ok (.iconst 1, 1) := by decide +kernel
theorem dL_law__1171 : decode cL_law_ 1171 = .ok (.ireturn, 1) := by decide +kernel
section
variable {p : Program} {l : Launch} {e : Env} {s : State} {m : MethodId} {below : List Frame} {meth : Method} {c : Code} {H : Heap} {locs : List Loc} {Q : State → Prop} {ls : Array Slot} {G : kx_G} {M : km_G} {σ : kx_S} {μ : km_S} {b L x o k : Nat} {xs : Nat → Int32} {i : Int32}
set_option maxRecDepth 100000 in
set_option maxHeartbeats 4000000 in
theorem lc_reach (hlt : l.stackTraces = false) (F : CallFix p m c cL_law_ 8 s #[Value.ref b] kt_ RL) (hX : va_X b L xs s s.heap) (hbl : b < s.heap.size) (hbA : ¬ lx_A s b) (C : lx_C G M s H locs σ μ) (Z : yZ_ k (sm_ μ) x o σ) (I : im_ μ) (V : LV_ x σ μ) (hk : k < 600) (hv : ∀ j : Int32, 0 ≤ j.toInt → j.toInt ≤ 5 → vp_in (i + j) L) (hl : lv_has ls 8 [(4, .int i), (3, .ref o), (2, .ref (M.1 0)), (1, .ref x), (0, .ref b)])
    (kk : ∀ (ls : Array Slot) (σ' : kx_S) (μ' : km_S) (H : Heap) (locs : List Loc), lx_C G M s H locs σ' μ' → yZ_ (k + 1) (sm_ μ') x o σ' → im_ μ' → LV_ x σ' μ' → lv_has ls 8 [(4, .int i), (3, .ref o), (2, .ref (M.1 0)), (1, .ref x), (0, .ref b)] → lx_W p l e s m #[Value.ref b] below meth c H locs σ' Q (F0 m 1164 ls [])) : lx_W p l e s m #[Value.ref b] below meth c H locs σ Q (F0 m 152 ls []) := by
  obtain ⟨A, K, VC, VR⟩ := V
  refine lv_aload_n F.1 F.2.1 dL_law__152 rfl (lv_at hl 3 rfl) ?_
  refine lv_aload_n F.1 F.2.1 dL_law__153 rfl (lv_at hl 4 rfl) ?_
  refine lv_iload F.1 F.2.1 dL_law__154 (lv_at hl 0 rfl) ?_
  refine lv_iconst (v := 1) F.1 F.2.1 dL_law__156 (by decide) ?_
  refine lv_iadd F.1 F.2.1 dL_law__157 ?_
  refine va_sld F.1 F.2.1 hX hbl hbA C.1 (hv 1 (by decide) (by decide)) dL_law__158 ?_
  refine lv_aload_n F.1 F.2.1 dL_law__159 rfl (lv_at hl 4 rfl) ?_
  refine lv_iload F.1 F.2.1 dL_law__160 (lv_at hl 0 rfl) ?_
  refine lv_iconst (v := 2) F.1 F.2.1 dL_law__162 (by decide) ?_
  refine lv_iadd F.1 F.2.1 dL_law__163 ?_
  refine va_sld F.1 F.2.1 hX hbl hbA C.1 (hv 2 (by decide) (by decide)) dL_law__164 ?_
  refine lv_aload_n F.1 F.2.1 dL_law__165 rfl (lv_at hl 4 rfl) ?_
  refine lv_iload F.1 F.2.1 dL_law__166 (lv_at hl 0 rfl) ?_
  refine lv_iconst (v := 3) F.1 F.2.1 dL_law__168 (by decide) ?_
  refine lv_iadd F.1 F.2.1 dL_law__169 ?_
  refine va_sld F.1 F.2.1 hX hbl hbA C.1 (hv 3 (by decide) (by decide)) dL_law__170 ?_
  refine lv_aload_n F.1 F.2.1 dL_law__171 rfl (lv_at hl 4 rfl) ?_
  refine lv_iload F.1 F.2.1 dL_law__172 (lv_at hl 0 rfl) ?_
  refine lv_iconst (v := 4) F.1 F.2.1 dL_law__174 (by decide) ?_
  refine lv_iadd F.1 F.2.1 dL_law__175 ?_
  refine va_sld F.1 F.2.1 hX hbl hbA C.1 (hv 4 (by decide) (by decide)) dL_law__176 ?_
  refine lx_cV (As := [.int (xs (i + 1).toNatClampNeg), .int (xs (i + 2).toNatClampNeg), .int (xs (i + 3).toNatClampNeg), .int (xs (i + 4).toNatClampNeg)]) (n := 4) F C (hx_X11_reach l G x (xs (i + 1).toNatClampNeg) (xs (i + 2).toNatClampNeg) (xs (i + 3).toNatClampNeg) (xs (i + 4).toNatClampNeg) σ _ (lf_reach hk Z I K VC VR)) (kt_V uv_1 uv_2 uv_3 uv_4 uv_5) (by decide +kernel) ⟨Nat.le_of_ble_eq_true rfl, Nat.le_of_ble_eq_true rfl⟩ (yZ_x Z) rfl hl.1 (by simp [Value.category]) dL_law__177 (fun v9 u H locs h9 C => ?_)
  obtain ⟨r1, ev, hq, Y'⟩ := h9
  subst ev
  have Z' := hq.2.2
  refine lv_pop F.1 F.2.1 dL_law__180 rfl ?_
  refine lv_aload_n F.1 F.2.1 dL_law__181 rfl (lv_at hl 2 rfl) ?_
  refine lv_aload_n F.1 F.2.1 dL_law__182 rfl (lv_at hl 4 rfl) ?_
  refine lv_iload F.1 F.2.1 dL_law__183 (lv_at hl 0 rfl) ?_
  refine lv_iconst (v := 1) F.1 F.2.1 dL_law__185 (by decide) ?_
  refine lv_iadd F.1 F.2.1 dL_law__186 ?_
  refine va_sld F.1 F.2.1 hX hbl hbA C.1 (hv 1 (by decide) (by decide)) dL_law__187 ?_
  refine lv_aload_n F.1 F.2.1 dL_law__188 rfl (lv_at hl 4 rfl) ?_
  refine lv_iload F.1 F.2.1 dL_law__189 (lv_at hl 0 rfl) ?_
  refine lv_iconst (v := 2) F.1 F.2.1 dL_law__191 (by decide) ?_
  refine lv_iadd F.1 F.2.1 dL_law__192 ?_
  refine va_sld F.1 F.2.1 hX hbl hbA C.1 (hv 2 (by decide) (by decide)) dL_law__193 ?_
  refine lv_aload_n F.1 F.2.1 dL_law__194 rfl (lv_at hl 4 rfl) ?_
  refine lv_iload F.1 F.2.1 dL_law__195 (lv_at hl 0 rfl) ?_
  refine lv_iconst (v := 3) F.1 F.2.1 dL_law__197 (by decide) ?_
  refine lv_iadd F.1 F.2.1 dL_law__198 ?_
  refine va_sld F.1 F.2.1 hX hbl hbA C.1 (hv 3 (by decide) (by decide)) dL_law__199 ?_
  refine lv_aload_n F.1 F.2.1 dL_law__200 rfl (lv_at hl 4 rfl) ?_
  refine lv_iload F.1 F.2.1 dL_law__201 (lv_at hl 0 rfl) ?_
  refine lv_iconst (v := 4) F.1 F.2.1 dL_law__203 (by decide) ?_
  refine lv_iadd F.1 F.2.1 dL_law__204 ?_
  refine va_sld F.1 F.2.1 hX hbl hbA C.1 (hv 4 (by decide) (by decide)) dL_law__205 ?_
  refine lx_mVi (As := [.int (xs (i + 1).toNatClampNeg), .int (xs (i + 2).toNatClampNeg), .int (xs (i + 3).toNatClampNeg), .int (xs (i + 4).toNatClampNeg)]) (n := 4) F C (hc_X12_reach l M (xs (i + 1).toNatClampNeg) (xs (i + 2).toNatClampNeg) (xs (i + 3).toNatClampNeg) (xs (i + 4).toNatClampNeg) μ _ (lm_reach I K VR)) (kt_V uv_6 uv_7 uv_8 uv_9 uv_10) (by decide +kernel) ⟨Nat.le_of_ble_eq_true rfl, Nat.le_of_ble_eq_true rfl⟩ rfl hl.1 (by simp [Value.category]) dL_law__206 (fun r2 μ' H locs hm C => ?_)
  obtain ⟨hm, T'⟩ := hm
  have I' := hm.1
  have es : sm_ μ' = (z_reach (xs (i + 1).toNatClampNeg) (xs (i + 2).toNatClampNeg) (xs (i + 3).toNatClampNeg) (xs (i + 4).toNatClampNeg) (sm_ μ)).2.2 := congrArg (fun q => q.2.2) hm.2
  have V' : LV_ x u μ' := ⟨(fa_reach (xs (i + 1).toNatClampNeg) (xs (i + 2).toNatClampNeg) (xs (i + 3).toNatClampNeg) (xs (i + 4).toNatClampNeg) (sm_ μ) A), by rw [es]; exact kp_reach (sB_im I).1.1 (sB_im I).1.2 K, by rw [es]; exact Y', T'⟩
  rw [show (z_reach (xs (i + 1).toNatClampNeg) (xs (i + 2).toNatClampNeg) (xs (i + 3).toNatClampNeg) (xs (i + 4).toNatClampNeg) (sm_ μ)).2.2 = sm_ μ' from (congrArg (fun q => q.2.2) hm.2).symm] at Z'
  have er : r1 = r2 := hq.2.1.trans (congrArg (fun q => q.2.1) hm.2).symm
  refine lv_pop F.1 F.2.1 dL_law__209 rfl ?_
  refine lv_goto (tgt := 1164) F.1 F.2.1 dL_law__210 (by decide) ?_
  exact kk _ _ _ _ _ C Z' I' V' (lv_sub hl [0, 1, 2, 3, 4] rfl)
set_option maxRecDepth 100000 in
set_option maxHeartbeats 4000000 in
theorem lc_dam (hlt : l.stackTraces = false) (F : CallFix p m c cL_law_ 8 s #[Value.ref b] kt_ RL) (hX : va_X b L xs s s.heap) (hbl : b < s.heap.size) (hbA : ¬ lx_A s b) (C : lx_C G M s H locs σ μ) (Z : yZ_ k (sm_ μ) x o σ) (I : im_ μ) (V : LV_ x σ μ) (hk : k < 600) (hv : ∀ j : Int32, 0 ≤ j.toInt → j.toInt ≤ 5 → vp_in (i + j) L) (hl : lv_has ls 8 [(4, .int i), (3, .ref o), (2, .ref (M.1 0)), (1, .ref x), (0, .ref b)])
    (kk : ∀ (ls : Array Slot) (σ' : kx_S) (μ' : km_S) (H : Heap) (locs : List Loc), lx_C G M s H locs σ' μ' → yZ_ (k + 1) (sm_ μ') x o σ' → im_ μ' → LV_ x σ' μ' → lv_has ls 8 [(4, .int i), (3, .ref o), (2, .ref (M.1 0)), (1, .ref x), (0, .ref b)] → lx_W p l e s m #[Value.ref b] below meth c H locs σ' Q (F0 m 1164 ls [])) : lx_W p l e s m #[Value.ref b] below meth c H locs σ Q (F0 m 213 ls []) := by
  obtain ⟨A, K, VC, VR⟩ := V
  refine lv_aload_n F.1 F.2.1 dL_law__213 rfl (lv_at hl 3 rfl) ?_
  refine lv_aload_n F.1 F.2.1 dL_law__214 rfl (lv_at hl 4 rfl) ?_
  refine lv_iload F.1 F.2.1 dL_law__215 (lv_at hl 0 rfl) ?_
  refine lv_iconst (v := 1) F.1 F.2.1 dL_law__217 (by decide) ?_
  refine lv_iadd F.1 F.2.1 dL_law__218 ?_
  refine va_sld F.1 F.2.1 hX hbl hbA C.1 (hv 1 (by decide) (by decide)) dL_law__219 ?_
  refine lv_aload_n F.1 F.2.1 dL_law__220 rfl (lv_at hl 4 rfl) ?_
  refine lv_iload F.1 F.2.1 dL_law__221 (lv_at hl 0 rfl) ?_
  refine lv_iconst (v := 2) F.1 F.2.1 dL_law__223 (by decide) ?_
  refine lv_iadd F.1 F.2.1 dL_law__224 ?_
  refine va_sld F.1 F.2.1 hX hbl hbA C.1 (hv 2 (by decide) (by decide)) dL_law__225 ?_
  refine lv_aload_n F.1 F.2.1 dL_law__226 rfl (lv_at hl 1 rfl) ?_
  refine lx_cS (As := [.ref x, .int (xs (i + 1).toNatClampNeg), .int (xs (i + 2).toNatClampNeg), .ref o]) (n := 4) F C (hw_dam l hlt G x (xs (i + 1).toNatClampNeg) (xs (i + 2).toNatClampNeg) o σ _ _ (fun _ u => yZ_ (k + 1) (z_dam (xs (i + 1).toNatClampNeg) (xs (i + 2).toNatClampNeg) (sm_ μ)).2.2 x o u ∧ fC_ (z_dam (xs (i + 1).toNatClampNeg) (xs (i + 2).toNatClampNeg) (sm_ μ)).2.2.1 (fa_dam (xs (i + 1).toNatClampNeg) (xs (i + 2).toNatClampNeg) (sm_ μ) A) x u) (yZ_x Z) (lf_dam hk Z I K VC VR) (fun r u h9 => ⟨(yZ_out h9.1.2.2).1, (yZ_out h9.1.2.2).2 _, fC_sal h9.2⟩) (fun E u h9 => ⟨h9.1.1, h9.1.2.2, h9.2⟩)) (kt_SH uv_11 uv_12 uv_13 uv_14) (by decide +kernel) ⟨Nat.le_of_ble_eq_true rfl, Nat.le_of_ble_eq_true rfl⟩ rfl hl.1 (by simp [Value.category]) dL_law__227 (fun v9 u H locs h9 C => ?_)
  obtain ⟨r1, ev, Z', Y'⟩ := h9
  subst ev
  refine lv_istore (lv' := [(5, .int r1), (4, .int i), (3, .ref o), (2, .ref (M.1 0)), (1, .ref x), (0, .ref b)]) F.1 F.2.1 dL_law__230 hl (by decide) rfl (fun ls hl => ?_)
  refine lv_aload_n F.1 F.2.1 dL_law__232 rfl (lv_at hl 3 rfl) ?_
  refine lv_aload_n F.1 F.2.1 dL_law__233 rfl (lv_at hl 5 rfl) ?_
  refine lv_iload F.1 F.2.1 dL_law__234 (lv_at hl 1 rfl) ?_
  refine lv_iconst (v := 1) F.1 F.2.1 dL_law__236 (by decide) ?_
  refine lv_iadd F.1 F.2.1 dL_law__237 ?_
  refine va_sld F.1 F.2.1 hX hbl hbA C.1 (hv 1 (by decide) (by decide)) dL_law__238 ?_
  refine lv_aload_n F.1 F.2.1 dL_law__239 rfl (lv_at hl 5 rfl) ?_
  refine lv_iload F.1 F.2.1 dL_law__240 (lv_at hl 1 rfl) ?_
  refine lv_iconst (v := 2) F.1 F.2.1 dL_law__242 (by decide) ?_
  refine lv_iadd F.1 F.2.1 dL_law__243 ?_
  refine va_sld F.1 F.2.1 hX hbl hbA C.1 (hv 2 (by decide) (by decide)) dL_law__244 ?_
  refine lx_mVi (As := [.int (xs (i + 1).toNatClampNeg), .int (xs (i + 2).toNatClampNeg)]) (n := 2) F C (hc_X12_dam l M (xs (i + 1).toNatClampNeg) (xs (i + 2).toNatClampNeg) μ _ (lm_dam I K VR)) (kt_V uv_15 uv_16 uv_17 uv_9 uv_18) (by decide +kernel) ⟨Nat.le_of_ble_eq_true rfl, Nat.le_of_ble_eq_true rfl⟩ rfl hl.1 (by simp [Value.category]) dL_law__245 (fun r2 μ' H locs hm C => ?_)
  obtain ⟨hm, T'⟩ := hm
  have I' := hm.1
  have es : sm_ μ' = (z_dam (xs (i + 1).toNatClampNeg) (xs (i + 2).toNatClampNeg) (sm_ μ)).2.2 := congrArg (fun q => q.2.2) hm.2
  have V' : LV_ x u μ' := ⟨(fa_dam (xs (i + 1).toNatClampNeg) (xs (i + 2).toNatClampNeg) (sm_ μ) A), by rw [es]; exact kp_dam (sB_im I).1.1 K, by rw [es]; exact Y', T'⟩
  rw [show (z_dam (xs (i + 1).toNatClampNeg) (xs (i + 2).toNatClampNeg) (sm_ μ)).2.2 = sm_ μ' from (congrArg (fun q => q.2.2) hm.2).symm] at Z'
  refine lv_istore (lv' := [(6, .int r2), (5, .int r1), (4, .int i), (3, .ref o), (2, .ref (M.1 0)), (1, .ref x), (0, .ref b)]) F.1 F.2.1 dL_law__248 hl (by decide) rfl (fun ls hl => ?_)
  refine lv_goto (tgt := 1164) F.1 F.2.1 dL_law__250 (by decide) ?_
  exact kk _ _ _ _ _ C Z' I' V' (lv_sub hl [2, 3, 4, 5, 6] rfl)
set_option maxRecDepth 100000 in
set_option maxHeartbeats 4000000 in
theorem lc_gate (hlt : l.stackTraces = false) (F : CallFix p m c cL_law_ 8 s #[Value.ref b] kt_ RL) (hX : va_X b L xs s s.heap) (hbl : b < s.heap.size) (hbA : ¬ lx_A s b) (C : lx_C G M s H locs σ μ) (Z : yZ_ k (sm_ μ) x o σ) (I : im_ μ) (V : LV_ x σ μ) (hk : k < 600) (hv : ∀ j : Int32, 0 ≤ j.toInt → j.toInt ≤ 5 → vp_in (i + j) L) (hl : lv_has ls 8 [(4, .int i), (3, .ref o), (2, .ref (M.1 0)), (1, .ref x), (0, .ref b)])
    (kk : ∀ (ls : Array Slot) (σ' : kx_S) (μ' : km_S) (H : Heap) (locs : List Loc), lx_C G M s H locs σ' μ' → yZ_ (k + 1) (sm_ μ') x o σ' → im_ μ' → LV_ x σ' μ' → lv_has ls 8 [(4, .int i), (3, .ref o), (2, .ref (M.1 0)), (1, .ref x), (0, .ref b)] → lx_W p l e s m #[Value.ref b] below meth c H locs σ' Q (F0 m 1164 ls [])) : lx_W p l e s m #[Value.ref b] below meth c H locs σ Q (F0 m 253 ls []) := by
  obtain ⟨A, K, VC, VR⟩ := V
  refine lv_aload_n F.1 F.2.1 dL_law__253 rfl (lv_at hl 3 rfl) ?_
  refine lv_aload_n F.1 F.2.1 dL_law__254 rfl (lv_at hl 4 rfl) ?_
  refine lv_iload F.1 F.2.1 dL_law__255 (lv_at hl 0 rfl) ?_
  refine lv_iconst (v := 1) F.1 F.2.1 dL_law__257 (by decide) ?_
  refine lv_iadd F.1 F.2.1 dL_law__258 ?_
  refine va_sld F.1 F.2.1 hX hbl hbA C.1 (hv 1 (by decide) (by decide)) dL_law__259 ?_
  refine lv_aload_n F.1 F.2.1 dL_law__260 rfl (lv_at hl 4 rfl) ?_
  refine lv_iload F.1 F.2.1 dL_law__261 (lv_at hl 0 rfl) ?_
  refine lv_iconst (v := 2) F.1 F.2.1 dL_law__263 (by decide) ?_
  refine lv_iadd F.1 F.2.1 dL_law__264 ?_
  refine va_sld F.1 F.2.1 hX hbl hbA C.1 (hv 2 (by decide) (by decide)) dL_law__265 ?_
  refine lv_aload_n F.1 F.2.1 dL_law__266 rfl (lv_at hl 1 rfl) ?_
  refine lx_cS (As := [.ref x, .int (xs (i + 1).toNatClampNeg), .int (xs (i + 2).toNatClampNeg), .ref o]) (n := 4) F C (hw_gate l hlt G x (xs (i + 1).toNatClampNeg) (xs (i + 2).toNatClampNeg) o σ _ _ (fun _ u => yZ_ (k + 1) (z_gate (xs (i + 1).toNatClampNeg) (xs (i + 2).toNatClampNeg) (sm_ μ)).2.2 x o u ∧ fC_ (z_gate (xs (i + 1).toNatClampNeg) (xs (i + 2).toNatClampNeg) (sm_ μ)).2.2.1 A x u) (yZ_x Z) (lf_gate hk Z I K VC VR) (fun r u h9 => ⟨(yZ_out h9.1.2.2).1, (yZ_out h9.1.2.2).2 _, fC_sal h9.2⟩) (fun E u h9 => ⟨h9.1.1, h9.1.2.2, h9.2⟩)) (kt_SH uv_19 uv_20 uv_13 uv_21) (by decide +kernel) ⟨Nat.le_of_ble_eq_true rfl, Nat.le_of_ble_eq_true rfl⟩ rfl hl.1 (by simp [Value.category]) dL_law__267 (fun v9 u H locs h9 C => ?_)
  obtain ⟨r1, ev, Z', Y'⟩ := h9
  subst ev
  refine lv_istore (lv' := [(5, .int r1), (4, .int i), (3, .ref o), (2, .ref (M.1 0)), (1, .ref x), (0, .ref b)]) F.1 F.2.1 dL_law__270 hl (by decide) rfl (fun ls hl => ?_)
  refine lv_aload_n F.1 F.2.1 dL_law__272 rfl (lv_at hl 3 rfl) ?_
  refine lv_aload_n F.1 F.2.1 dL_law__273 rfl (lv_at hl 5 rfl) ?_
  refine lv_iload F.1 F.2.1 dL_law__274 (lv_at hl 1 rfl) ?_
  refine lv_iconst (v := 1) F.1 F.2.1 dL_law__276 (by decide) ?_
  refine lv_iadd F.1 F.2.1 dL_law__277 ?_
  refine va_sld F.1 F.2.1 hX hbl hbA C.1 (hv 1 (by decide) (by decide)) dL_law__278 ?_
  refine lv_aload_n F.1 F.2.1 dL_law__279 rfl (lv_at hl 5 rfl) ?_
  refine lv_iload F.1 F.2.1 dL_law__280 (lv_at hl 1 rfl) ?_
  refine lv_iconst (v := 2) F.1 F.2.1 dL_law__282 (by decide) ?_
  refine lv_iadd F.1 F.2.1 dL_law__283 ?_
  refine va_sld F.1 F.2.1 hX hbl hbA C.1 (hv 2 (by decide) (by decide)) dL_law__284 ?_
  refine lx_mVi (As := [.int (xs (i + 1).toNatClampNeg), .int (xs (i + 2).toNatClampNeg)]) (n := 2) F C (hc_X12_gate l M (xs (i + 1).toNatClampNeg) (xs (i + 2).toNatClampNeg) μ _ (lm_gate I K VR)) (kt_V uv_22 uv_23 uv_24 uv_9 uv_25) (by decide +kernel) ⟨Nat.le_of_ble_eq_true rfl, Nat.le_of_ble_eq_true rfl⟩ rfl hl.1 (by simp [Value.category]) dL_law__285 (fun r2 μ' H locs hm C => ?_)
  obtain ⟨hm, T'⟩ := hm
  have I' := hm.1
  have es : sm_ μ' = (z_gate (xs (i + 1).toNatClampNeg) (xs (i + 2).toNatClampNeg) (sm_ μ)).2.2 := congrArg (fun q => q.2.2) hm.2
  have V' : LV_ x u μ' := ⟨A, by rw [es]; exact kp_gate K, by rw [es]; exact Y', T'⟩
  rw [show (z_gate (xs (i + 1).toNatClampNeg) (xs (i + 2).toNatClampNeg) (sm_ μ)).2.2 = sm_ μ' from (congrArg (fun q => q.2.2) hm.2).symm] at Z'
  refine lv_istore (lv' := [(6, .int r2), (5, .int r1), (4, .int i), (3, .ref o), (2, .ref (M.1 0)), (1, .ref x), (0, .ref b)]) F.1 F.2.1 dL_law__288 hl (by decide) rfl (fun ls hl => ?_)
  refine lv_goto (tgt := 1164) F.1 F.2.1 dL_law__290 (by decide) ?_
  exact kk _ _ _ _ _ C Z' I' V' (lv_sub hl [2, 3, 4, 5, 6] rfl)
set_option maxRecDepth 100000 in
set_option maxHeartbeats 4000000 in
theorem lc_melt (hlt : l.stackTraces = false) (F : CallFix p m c cL_law_ 8 s #[Value.ref b] kt_ RL) (hX : va_X b L xs s s.heap) (hbl : b < s.heap.size) (hbA : ¬ lx_A s b) (C : lx_C G M s H locs σ μ) (Z : yZ_ k (sm_ μ) x o σ) (I : im_ μ) (V : LV_ x σ μ) (hk : k < 600) (hv : ∀ j : Int32, 0 ≤ j.toInt → j.toInt ≤ 5 → vp_in (i + j) L) (hl : lv_has ls 8 [(4, .int i), (3, .ref o), (2, .ref (M.1 0)), (1, .ref x), (0, .ref b)])
    (kk : ∀ (ls : Array Slot) (σ' : kx_S) (μ' : km_S) (H : Heap) (locs : List Loc), lx_C G M s H locs σ' μ' → yZ_ (k + 1) (sm_ μ') x o σ' → im_ μ' → LV_ x σ' μ' → lv_has ls 8 [(4, .int i), (3, .ref o), (2, .ref (M.1 0)), (1, .ref x), (0, .ref b)] → lx_W p l e s m #[Value.ref b] below meth c H locs σ' Q (F0 m 1164 ls [])) : lx_W p l e s m #[Value.ref b] below meth c H locs σ Q (F0 m 293 ls []) := by
  obtain ⟨A, K, VC, VR⟩ := V
  refine lv_aload_n F.1 F.2.1 dL_law__293 rfl (lv_at hl 3 rfl) ?_
  refine lv_aload_n F.1 F.2.1 dL_law__294 rfl (lv_at hl 4 rfl) ?_
  refine lv_iload F.1 F.2.1 dL_law__295 (lv_at hl 0 rfl) ?_
  refine lv_iconst (v := 1) F.1 F.2.1 dL_law__297 (by decide) ?_
  refine lv_iadd F.1 F.2.1 dL_law__298 ?_
  refine va_sld F.1 F.2.1 hX hbl hbA C.1 (hv 1 (by decide) (by decide)) dL_law__299 ?_
  refine lv_aload_n F.1 F.2.1 dL_law__300 rfl (lv_at hl 4 rfl) ?_
  refine lv_iload F.1 F.2.1 dL_law__301 (lv_at hl 0 rfl) ?_
  refine lv_iconst (v := 2) F.1 F.2.1 dL_law__303 (by decide) ?_
  refine lv_iadd F.1 F.2.1 dL_law__304 ?_
  refine va_sld F.1 F.2.1 hX hbl hbA C.1 (hv 2 (by decide) (by decide)) dL_law__305 ?_
  refine lv_aload_n F.1 F.2.1 dL_law__306 rfl (lv_at hl 1 rfl) ?_
  refine lx_cS (As := [.ref x, .int (xs (i + 1).toNatClampNeg), .int (xs (i + 2).toNatClampNeg), .ref o]) (n := 4) F C (hw_melt l hlt G x (xs (i + 1).toNatClampNeg) (xs (i + 2).toNatClampNeg) o σ _ _ (fun _ u => yZ_ (k + 1) (z_melt (xs (i + 1).toNatClampNeg) (xs (i + 2).toNatClampNeg) (sm_ μ)).2.2 x o u ∧ fC_ (z_melt (xs (i + 1).toNatClampNeg) (xs (i + 2).toNatClampNeg) (sm_ μ)).2.2.1 A x u) (yZ_x Z) (lf_melt hk Z I K VC VR) (fun r u h9 => ⟨(yZ_out h9.1.2.2).1, (yZ_out h9.1.2.2).2 _, fC_sal h9.2⟩) (fun E u h9 => ⟨h9.1.1, h9.1.2.2, h9.2⟩)) (kt_SH uv_26 uv_27 uv_13 uv_28) (by decide +kernel) ⟨Nat.le_of_ble_eq_true rfl, Nat.le_of_ble_eq_true rfl⟩ rfl hl.1 (by simp [Value.category]) dL_law__307 (fun v9 u H locs h9 C => ?_)
  obtain ⟨r1, ev, Z', Y'⟩ := h9
  subst ev
  refine lv_istore (lv' := [(5, .int r1), (4, .int i), (3, .ref o), (2, .ref (M.1 0)), (1, .ref x), (0, .ref b)]) F.1 F.2.1 dL_law__310 hl (by decide) rfl (fun ls hl => ?_)
  refine lv_aload_n F.1 F.2.1 dL_law__312 rfl (lv_at hl 3 rfl) ?_
  refine lv_aload_n F.1 F.2.1 dL_law__313 rfl (lv_at hl 5 rfl) ?_
  refine lv_iload F.1 F.2.1 dL_law__314 (lv_at hl 1 rfl) ?_
  refine lv_iconst (v := 1) F.1 F.2.1 dL_law__316 (by decide) ?_
  refine lv_iadd F.1 F.2.1 dL_law__317 ?_
  refine va_sld F.1 F.2.1 hX hbl hbA C.1 (hv 1 (by decide) (by decide)) dL_law__318 ?_
  refine lv_aload_n F.1 F.2.1 dL_law__319 rfl (lv_at hl 5 rfl) ?_
  refine lv_iload F.1 F.2.1 dL_law__320 (lv_at hl 1 rfl) ?_
  refine lv_iconst (v := 2) F.1 F.2.1 dL_law__322 (by decide) ?_
  refine lv_iadd F.1 F.2.1 dL_law__323 ?_
  refine va_sld F.1 F.2.1 hX hbl hbA C.1 (hv 2 (by decide) (by decide)) dL_law__324 ?_
  refine lx_mVi (As := [.int (xs (i + 1).toNatClampNeg), .int (xs (i + 2).toNatClampNeg)]) (n := 2) F C (hc_X12_melt l M (xs (i + 1).toNatClampNeg) (xs (i + 2).toNatClampNeg) μ _ (lm_melt I K VR)) (kt_V uv_29 uv_30 uv_31 uv_9 uv_32) (by decide +kernel) ⟨Nat.le_of_ble_eq_true rfl, Nat.le_of_ble_eq_true rfl⟩ rfl hl.1 (by simp [Value.category]) dL_law__325 (fun r2 μ' H locs hm C => ?_)
  obtain ⟨hm, T'⟩ := hm
  have I' := hm.1
  have es : sm_ μ' = (z_melt (xs (i + 1).toNatClampNeg) (xs (i + 2).toNatClampNeg) (sm_ μ)).2.2 := congrArg (fun q => q.2.2) hm.2
  have V' : LV_ x u μ' := ⟨A, by rw [es]; exact kp_melt K, by rw [es]; exact Y', T'⟩
  rw [show (z_melt (xs (i + 1).toNatClampNeg) (xs (i + 2).toNatClampNeg) (sm_ μ)).2.2 = sm_ μ' from (congrArg (fun q => q.2.2) hm.2).symm] at Z'
  refine lv_istore (lv' := [(6, .int r2), (5, .int r1), (4, .int i), (3, .ref o), (2, .ref (M.1 0)), (1, .ref x), (0, .ref b)]) F.1 F.2.1 dL_law__328 hl (by decide) rfl (fun ls hl => ?_)
  refine lv_goto (tgt := 1164) F.1 F.2.1 dL_law__330 (by decide) ?_
  exact kk _ _ _ _ _ C Z' I' V' (lv_sub hl [2, 3, 4, 5, 6] rfl)
set_option maxRecDepth 100000 in
set_option maxHeartbeats 4000000 in
theorem lc_boom (hlt : l.stackTraces = false) (F : CallFix p m c cL_law_ 8 s #[Value.ref b] kt_ RL) (hX : va_X b L xs s s.heap) (hbl : b < s.heap.size) (hbA : ¬ lx_A s b) (C : lx_C G M s H locs σ μ) (Z : yZ_ k (sm_ μ) x o σ) (I : im_ μ) (V : LV_ x σ μ) (hk : k < 600) (hv : ∀ j : Int32, 0 ≤ j.toInt → j.toInt ≤ 5 → vp_in (i + j) L) (hl : lv_has ls 8 [(4, .int i), (3, .ref o), (2, .ref (M.1 0)), (1, .ref x), (0, .ref b)])
    (kk : ∀ (ls : Array Slot) (σ' : kx_S) (μ' : km_S) (H : Heap) (locs : List Loc), lx_C G M s H locs σ' μ' → yZ_ (k + 1) (sm_ μ') x o σ' → im_ μ' → LV_ x σ' μ' → lv_has ls 8 [(4, .int i), (3, .ref o), (2, .ref (M.1 0)), (1, .ref x), (0, .ref b)] → lx_W p l e s m #[Value.ref b] below meth c H locs σ' Q (F0 m 1164 ls [])) : lx_W p l e s m #[Value.ref b] below meth c H locs σ Q (F0 m 333 ls []) := by
  obtain ⟨A, K, VC, VR⟩ := V
  refine lv_aload_n F.1 F.2.1 dL_law__333 rfl (lv_at hl 3 rfl) ?_
  refine lv_aload_n F.1 F.2.1 dL_law__334 rfl (lv_at hl 4 rfl) ?_
  refine lv_iload F.1 F.2.1 dL_law__335 (lv_at hl 0 rfl) ?_
  refine lv_iconst (v := 1) F.1 F.2.1 dL_law__337 (by decide) ?_
  refine lv_iadd F.1 F.2.1 dL_law__338 ?_
  refine va_sld F.1 F.2.1 hX hbl hbA C.1 (hv 1 (by decide) (by decide)) dL_law__339 ?_
  refine lv_aload_n F.1 F.2.1 dL_law__340 rfl (lv_at hl 4 rfl) ?_
  refine lv_iload F.1 F.2.1 dL_law__341 (lv_at hl 0 rfl) ?_
  refine lv_iconst (v := 2) F.1 F.2.1 dL_law__343 (by decide) ?_
  refine lv_iadd F.1 F.2.1 dL_law__344 ?_
  refine va_sld F.1 F.2.1 hX hbl hbA C.1 (hv 2 (by decide) (by decide)) dL_law__345 ?_
  refine lv_aload_n F.1 F.2.1 dL_law__346 rfl (lv_at hl 4 rfl) ?_
  refine lv_iload F.1 F.2.1 dL_law__347 (lv_at hl 0 rfl) ?_
  refine lv_iconst (v := 3) F.1 F.2.1 dL_law__349 (by decide) ?_
  refine lv_iadd F.1 F.2.1 dL_law__350 ?_
  refine va_sld F.1 F.2.1 hX hbl hbA C.1 (hv 3 (by decide) (by decide)) dL_law__351 ?_
  refine lv_aload_n F.1 F.2.1 dL_law__352 rfl (lv_at hl 1 rfl) ?_
  refine lx_cS (As := [.ref x, .int (xs (i + 1).toNatClampNeg), .int (xs (i + 2).toNatClampNeg), .int (xs (i + 3).toNatClampNeg), .ref o]) (n := 5) F C (hw_boom l hlt G x (xs (i + 1).toNatClampNeg) (xs (i + 2).toNatClampNeg) (xs (i + 3).toNatClampNeg) o σ _ _ (fun _ u => yZ_ (k + 1) (z_boom (xs (i + 1).toNatClampNeg) (xs (i + 3).toNatClampNeg) (sm_ μ)).2.2 x o u ∧ fC_ (z_boom (xs (i + 1).toNatClampNeg) (xs (i + 3).toNatClampNeg) (sm_ μ)).2.2.1 (fa_boom (xs (i + 1).toNatClampNeg) (xs (i + 2).toNatClampNeg) (xs (i + 3).toNatClampNeg) (sm_ μ) A) x u) (yZ_x Z) (lf_boom hk Z I K VC VR) (fun r u h9 => ⟨(yZ_out h9.1.2.2).1, (yZ_out h9.1.2.2).2 _, fC_sal h9.2⟩) (fun E u h9 => ⟨h9.1.1, h9.1.2.2, h9.2⟩)) (kt_SH uv_33 uv_34 uv_13 uv_35) (by decide +kernel) ⟨Nat.le_of_ble_eq_true rfl, Nat.le_of_ble_eq_true rfl⟩ rfl hl.1 (by simp [Value.category]) dL_law__353 (fun v9 u H locs h9 C => ?_)
  obtain ⟨r1, ev, Z', Y'⟩ := h9
  subst ev
  refine lv_istore (lv' := [(5, .int r1), (4, .int i), (3, .ref o), (2, .ref (M.1 0)), (1, .ref x), (0, .ref b)]) F.1 F.2.1 dL_law__356 hl (by decide) rfl (fun ls hl => ?_)
  refine lv_aload_n F.1 F.2.1 dL_law__358 rfl (lv_at hl 3 rfl) ?_
  refine lv_aload_n F.1 F.2.1 dL_law__359 rfl (lv_at hl 5 rfl) ?_
  refine lv_iload F.1 F.2.1 dL_law__360 (lv_at hl 1 rfl) ?_
  refine lv_iconst (v := 1) F.1 F.2.1 dL_law__362 (by decide) ?_
  refine lv_iadd F.1 F.2.1 dL_law__363 ?_
  refine va_sld F.1 F.2.1 hX hbl hbA C.1 (hv 1 (by decide) (by decide)) dL_law__364 ?_
  refine lv_aload_n F.1 F.2.1 dL_law__365 rfl (lv_at hl 5 rfl) ?_
  refine lv_iload F.1 F.2.1 dL_law__366 (lv_at hl 1 rfl) ?_
  refine lv_iconst (v := 2) F.1 F.2.1 dL_law__368 (by decide) ?_
  refine lv_iadd F.1 F.2.1 dL_law__369 ?_
  refine va_sld F.1 F.2.1 hX hbl hbA C.1 (hv 2 (by decide) (by decide)) dL_law__370 ?_
  refine lv_aload_n F.1 F.2.1 dL_law__371 rfl (lv_at hl 5 rfl) ?_
  refine lv_iload F.1 F.2.1 dL_law__372 (lv_at hl 1 rfl) ?_
  refine lv_iconst (v := 3) F.1 F.2.1 dL_law__374 (by decide) ?_
  refine lv_iadd F.1 F.2.1 dL_law__375 ?_
  refine va_sld F.1 F.2.1 hX hbl hbA C.1 (hv 3 (by decide) (by decide)) dL_law__376 ?_
  refine lx_mVi (As := [.int (xs (i + 1).toNatClampNeg), .int (xs (i + 2).toNatClampNeg), .int (xs (i + 3).toNatClampNeg)]) (n := 3) F C (hc_X12_boom l M (xs (i + 1).toNatClampNeg) (xs (i + 2).toNatClampNeg) (xs (i + 3).toNatClampNeg) μ _ (lm_boom I K VR)) (kt_V uv_36 uv_37 uv_38 uv_9 uv_39) (by decide +kernel) ⟨Nat.le_of_ble_eq_true rfl, Nat.le_of_ble_eq_true rfl⟩ rfl hl.1 (by simp [Value.category]) dL_law__377 (fun r2 μ' H locs hm C => ?_)
  obtain ⟨hm, T'⟩ := hm
  have I' := hm.1
  have es : sm_ μ' = (z_boom (xs (i + 1).toNatClampNeg) (xs (i + 3).toNatClampNeg) (sm_ μ)).2.2 := congrArg (fun q => q.2.2) hm.2
  have V' : LV_ x u μ' := ⟨(fa_boom (xs (i + 1).toNatClampNeg) (xs (i + 2).toNatClampNeg) (xs (i + 3).toNatClampNeg) (sm_ μ) A), by rw [es]; exact kp_boom (sB_im I).1.1 K, by rw [es]; exact Y', T'⟩
  rw [show (z_boom (xs (i + 1).toNatClampNeg) (xs (i + 3).toNatClampNeg) (sm_ μ)).2.2 = sm_ μ' from (congrArg (fun q => q.2.2) hm.2).symm] at Z'
  refine lv_istore (lv' := [(6, .int r2), (5, .int r1), (4, .int i), (3, .ref o), (2, .ref (M.1 0)), (1, .ref x), (0, .ref b)]) F.1 F.2.1 dL_law__380 hl (by decide) rfl (fun ls hl => ?_)
  refine lv_goto (tgt := 1164) F.1 F.2.1 dL_law__382 (by decide) ?_
  exact kk _ _ _ _ _ C Z' I' V' (lv_sub hl [2, 3, 4, 5, 6] rfl)
set_option maxRecDepth 100000 in
set_option maxHeartbeats 4000000 in
theorem lc_watch0 (hlt : l.stackTraces = false) (F : CallFix p m c cL_law_ 8 s #[Value.ref b] kt_ RL) (hX : va_X b L xs s s.heap) (hbl : b < s.heap.size) (hbA : ¬ lx_A s b) (C : lx_C G M s H locs σ μ) (Z : yZ_ k (sm_ μ) x o σ) (I : im_ μ) (V : LV_ x σ μ) (hk : k < 600) (hv : ∀ j : Int32, 0 ≤ j.toInt → j.toInt ≤ 5 → vp_in (i + j) L) (hb9 : xs (i + 2).toNatClampNeg = 0) (hl : lv_has ls 8 [(4, .int i), (3, .ref o), (2, .ref (M.1 0)), (1, .ref x), (0, .ref b)])
    (kk : ∀ (ls : Array Slot) (σ' : kx_S) (μ' : km_S) (H : Heap) (locs : List Loc), lx_C G M s H locs σ' μ' → yZ_ (k + 1) (sm_ μ') x o σ' → im_ μ' → LV_ x σ' μ' → lv_has ls 8 [(4, .int i), (3, .ref o), (2, .ref (M.1 0)), (1, .ref x), (0, .ref b)] → lx_W p l e s m #[Value.ref b] below meth c H locs σ' Q (F0 m 1164 ls [])) : lx_W p l e s m #[Value.ref b] below meth c H locs σ Q (F0 m 385 ls []) := by
  obtain ⟨A, K, VC, VR⟩ := V
  refine lv_aload_n F.1 F.2.1 dL_law__385 rfl (lv_at hl 3 rfl) ?_
  refine lv_aload_n F.1 F.2.1 dL_law__386 rfl (lv_at hl 4 rfl) ?_
  refine lv_iload F.1 F.2.1 dL_law__387 (lv_at hl 0 rfl) ?_
  refine lv_iconst (v := 1) F.1 F.2.1 dL_law__389 (by decide) ?_
  refine lv_iadd F.1 F.2.1 dL_law__390 ?_
  refine va_sld F.1 F.2.1 hX hbl hbA C.1 (hv 1 (by decide) (by decide)) dL_law__391 ?_
  refine lv_aload_n F.1 F.2.1 dL_law__392 rfl (lv_at hl 4 rfl) ?_
  refine lv_iload F.1 F.2.1 dL_law__393 (lv_at hl 0 rfl) ?_
  refine lv_iconst (v := 2) F.1 F.2.1 dL_law__395 (by decide) ?_
  refine lv_iadd F.1 F.2.1 dL_law__396 ?_
  refine va_sld F.1 F.2.1 hX hbl hbA C.1 (hv 2 (by decide) (by decide)) dL_law__397 ?_
  refine lv_if_eq (tgt := 405) F.1 F.2.1 dL_law__398 (by decide) (fun c9 => ?_) (fun c9 => ?_)
  rotate_left
  · exact absurd hb9 c9
  refine lv_iconst (v := 0) F.1 F.2.1 dL_law__405 (by decide) ?_
  refine lv_aload_n F.1 F.2.1 dL_law__406 rfl (lv_at hl 1 rfl) ?_
  refine lx_cS (As := [.ref x, .int (xs (i + 1).toNatClampNeg), .int (0), .ref o]) (n := 4) F C (hw_watch l hlt G x (xs (i + 1).toNatClampNeg) (0) o σ _ _ (fun _ u => yZ_ (k + 1) (z_watch (xs (i + 1).toNatClampNeg) (0) (sm_ μ)).2.2 x o u ∧ fC_ (z_watch (xs (i + 1).toNatClampNeg) (0) (sm_ μ)).2.2.1 (fa_watch (xs (i + 1).toNatClampNeg) (0) (sm_ μ) A) x u) (yZ_x Z) (lf_watch (by decide) hk Z I K VC VR) (fun r u h9 => ⟨(yZ_out h9.1.2.2).1, (yZ_out h9.1.2.2).2 _, fC_sal h9.2⟩) (fun E u h9 => ⟨h9.1.1, h9.1.2.2, h9.2⟩)) (kt_SH uv_40 uv_41 uv_13 uv_42) (by decide +kernel) ⟨Nat.le_of_ble_eq_true rfl, Nat.le_of_ble_eq_true rfl⟩ rfl hl.1 (by simp [Value.category]) dL_law__407 (fun v9 u H locs h9 C => ?_)
  obtain ⟨r1, ev, Z', Y'⟩ := h9
  subst ev
  refine lv_istore (lv' := [(5, .int r1), (4, .int i), (3, .ref o), (2, .ref (M.1 0)), (1, .ref x), (0, .ref b)]) F.1 F.2.1 dL_law__410 hl (by decide) rfl (fun ls hl => ?_)
  refine lv_aload_n F.1 F.2.1 dL_law__412 rfl (lv_at hl 3 rfl) ?_
  refine lv_aload_n F.1 F.2.1 dL_law__413 rfl (lv_at hl 5 rfl) ?_
  refine lv_iload F.1 F.2.1 dL_law__414 (lv_at hl 1 rfl) ?_
  refine lv_iconst (v := 1) F.1 F.2.1 dL_law__416 (by decide) ?_
  refine lv_iadd F.1 F.2.1 dL_law__417 ?_
  refine va_sld F.1 F.2.1 hX hbl hbA C.1 (hv 1 (by decide) (by decide)) dL_law__418 ?_
  refine lv_aload_n F.1 F.2.1 dL_law__419 rfl (lv_at hl 5 rfl) ?_
  refine lv_iload F.1 F.2.1 dL_law__420 (lv_at hl 1 rfl) ?_
  refine lv_iconst (v := 2) F.1 F.2.1 dL_law__422 (by decide) ?_
  refine lv_iadd F.1 F.2.1 dL_law__423 ?_
  refine va_sld F.1 F.2.1 hX hbl hbA C.1 (hv 2 (by decide) (by decide)) dL_law__424 ?_
  refine lv_if_eq (tgt := 432) F.1 F.2.1 dL_law__425 (by decide) (fun c9 => ?_) (fun c9 => ?_)
  rotate_left
  · exact absurd hb9 c9
  refine lv_iconst (v := 0) F.1 F.2.1 dL_law__432 (by decide) ?_
  refine lx_mVi (As := [.int (xs (i + 1).toNatClampNeg), .int (0)]) (n := 2) F C (hc_X12_watch l M (xs (i + 1).toNatClampNeg) (0) μ _ (lm_watch (by decide) I K VR)) (kt_V uv_43 uv_44 uv_45 uv_9 uv_46) (by decide +kernel) ⟨Nat.le_of_ble_eq_true rfl, Nat.le_of_ble_eq_true rfl⟩ rfl hl.1 (by simp [Value.category]) dL_law__433 (fun r2 μ' H locs hm C => ?_)
  obtain ⟨hm, T'⟩ := hm
  have I' := hm.1
  have es : sm_ μ' = (z_watch (xs (i + 1).toNatClampNeg) (0) (sm_ μ)).2.2 := congrArg (fun q => q.2.2) hm.2
  have V' : LV_ x u μ' := ⟨(fa_watch (xs (i + 1).toNatClampNeg) (0) (sm_ μ) A), by rw [es]; exact kp_watch (sB_im I).1.1 K, by rw [es]; exact Y', T'⟩
  rw [show (z_watch (xs (i + 1).toNatClampNeg) (0) (sm_ μ)).2.2 = sm_ μ' from (congrArg (fun q => q.2.2) hm.2).symm] at Z'
  refine lv_istore (lv' := [(6, .int r2), (5, .int r1), (4, .int i), (3, .ref o), (2, .ref (M.1 0)), (1, .ref x), (0, .ref b)]) F.1 F.2.1 dL_law__436 hl (by decide) rfl (fun ls hl => ?_)
  refine lv_goto (tgt := 1164) F.1 F.2.1 dL_law__438 (by decide) ?_
  exact kk _ _ _ _ _ C Z' I' V' (lv_sub hl [2, 3, 4, 5, 6] rfl)
set_option maxRecDepth 100000 in
set_option maxHeartbeats 4000000 in
theorem lc_watch1 (hlt : l.stackTraces = false) (F : CallFix p m c cL_law_ 8 s #[Value.ref b] kt_ RL) (hX : va_X b L xs s s.heap) (hbl : b < s.heap.size) (hbA : ¬ lx_A s b) (C : lx_C G M s H locs σ μ) (Z : yZ_ k (sm_ μ) x o σ) (I : im_ μ) (V : LV_ x σ μ) (hk : k < 600) (hv : ∀ j : Int32, 0 ≤ j.toInt → j.toInt ≤ 5 → vp_in (i + j) L) (hb9 : ¬ xs (i + 2).toNatClampNeg = 0) (hl : lv_has ls 8 [(4, .int i), (3, .ref o), (2, .ref (M.1 0)), (1, .ref x), (0, .ref b)])
    (kk : ∀ (ls : Array Slot) (σ' : kx_S) (μ' : km_S) (H : Heap) (locs : List Loc), lx_C G M s H locs σ' μ' → yZ_ (k + 1) (sm_ μ') x o σ' → im_ μ' → LV_ x σ' μ' → lv_has ls 8 [(4, .int i), (3, .ref o), (2, .ref (M.1 0)), (1, .ref x), (0, .ref b)] → lx_W p l e s m #[Value.ref b] below meth c H locs σ' Q (F0 m 1164 ls [])) : lx_W p l e s m #[Value.ref b] below meth c H locs σ Q (F0 m 385 ls []) := by
  obtain ⟨A, K, VC, VR⟩ := V
  refine lv_aload_n F.1 F.2.1 dL_law__385 rfl (lv_at hl 3 rfl) ?_
  refine lv_aload_n F.1 F.2.1 dL_law__386 rfl (lv_at hl 4 rfl) ?_
  refine lv_iload F.1 F.2.1 dL_law__387 (lv_at hl 0 rfl) ?_
  refine lv_iconst (v := 1) F.1 F.2.1 dL_law__389 (by decide) ?_
  refine lv_iadd F.1 F.2.1 dL_law__390 ?_
  refine va_sld F.1 F.2.1 hX hbl hbA C.1 (hv 1 (by decide) (by decide)) dL_law__391 ?_
  refine lv_aload_n F.1 F.2.1 dL_law__392 rfl (lv_at hl 4 rfl) ?_
  refine lv_iload F.1 F.2.1 dL_law__393 (lv_at hl 0 rfl) ?_
  refine lv_iconst (v := 2) F.1 F.2.1 dL_law__395 (by decide) ?_
  refine lv_iadd F.1 F.2.1 dL_law__396 ?_
  refine va_sld F.1 F.2.1 hX hbl hbA C.1 (hv 2 (by decide) (by decide)) dL_law__397 ?_
  refine lv_if_eq (tgt := 405) F.1 F.2.1 dL_law__398 (by decide) (fun c9 => ?_) (fun c9 => ?_)
  · exact absurd c9 hb9
  refine lv_iconst (v := 1) F.1 F.2.1 dL_law__401 (by decide) ?_
  refine lv_goto (tgt := 406) F.1 F.2.1 dL_law__402 (by decide) ?_
  refine lv_aload_n F.1 F.2.1 dL_law__406 rfl (lv_at hl 1 rfl) ?_
  refine lx_cS (As := [.ref x, .int (xs (i + 1).toNatClampNeg), .int (1), .ref o]) (n := 4) F C (hw_watch l hlt G x (xs (i + 1).toNatClampNeg) (1) o σ _ _ (fun _ u => yZ_ (k + 1) (z_watch (xs (i + 1).toNatClampNeg) (1) (sm_ μ)).2.2 x o u ∧ fC_ (z_watch (xs (i + 1).toNatClampNeg) (1) (sm_ μ)).2.2.1 (fa_watch (xs (i + 1).toNatClampNeg) (1) (sm_ μ) A) x u) (yZ_x Z) (lf_watch (by decide) hk Z I K VC VR) (fun r u h9 => ⟨(yZ_out h9.1.2.2).1, (yZ_out h9.1.2.2).2 _, fC_sal h9.2⟩) (fun E u h9 => ⟨h9.1.1, h9.1.2.2, h9.2⟩)) (kt_SH uv_40 uv_41 uv_13 uv_42) (by decide +kernel) ⟨Nat.le_of_ble_eq_true rfl, Nat.le_of_ble_eq_true rfl⟩ rfl hl.1 (by simp [Value.category]) dL_law__407 (fun v9 u H locs h9 C => ?_)
  obtain ⟨r1, ev, Z', Y'⟩ := h9
  subst ev
  refine lv_istore (lv' := [(5, .int r1), (4, .int i), (3, .ref o), (2, .ref (M.1 0)), (1, .ref x), (0, .ref b)]) F.1 F.2.1 dL_law__410 hl (by decide) rfl (fun ls hl => ?_)
  refine lv_aload_n F.1 F.2.1 dL_law__412 rfl (lv_at hl 3 rfl) ?_
  refine lv_aload_n F.1 F.2.1 dL_law__413 rfl (lv_at hl 5 rfl) ?_
  refine lv_iload F.1 F.2.1 dL_law__414 (lv_at hl 1 rfl) ?_
  refine lv_iconst (v := 1) F.1 F.2.1 dL_law__416 (by decide) ?_
  refine lv_iadd F.1 F.2.1 dL_law__417 ?_
  refine va_sld F.1 F.2.1 hX hbl hbA C.1 (hv 1 (by decide) (by decide)) dL_law__418 ?_
  refine lv_aload_n F.1 F.2.1 dL_law__419 rfl (lv_at hl 5 rfl) ?_
  refine lv_iload F.1 F.2.1 dL_law__420 (lv_at hl 1 rfl) ?_
  refine lv_iconst (v := 2) F.1 F.2.1 dL_law__422 (by decide) ?_
  refine lv_iadd F.1 F.2.1 dL_law__423 ?_
  refine va_sld F.1 F.2.1 hX hbl hbA C.1 (hv 2 (by decide) (by decide)) dL_law__424 ?_
  refine lv_if_eq (tgt := 432) F.1 F.2.1 dL_law__425 (by decide) (fun c9 => ?_) (fun c9 => ?_)
  · exact absurd c9 hb9
  refine lv_iconst (v := 1) F.1 F.2.1 dL_law__428 (by decide) ?_
  refine lv_goto (tgt := 433) F.1 F.2.1 dL_law__429 (by decide) ?_
  refine lx_mVi (As := [.int (xs (i + 1).toNatClampNeg), .int (1)]) (n := 2) F C (hc_X12_watch l M (xs (i + 1).toNatClampNeg) (1) μ _ (lm_watch (by decide) I K VR)) (kt_V uv_43 uv_44 uv_45 uv_9 uv_46) (by decide +kernel) ⟨Nat.le_of_ble_eq_true rfl, Nat.le_of_ble_eq_true rfl⟩ rfl hl.1 (by simp [Value.category]) dL_law__433 (fun r2 μ' H locs hm C => ?_)
  obtain ⟨hm, T'⟩ := hm
  have I' := hm.1
  have es : sm_ μ' = (z_watch (xs (i + 1).toNatClampNeg) (1) (sm_ μ)).2.2 := congrArg (fun q => q.2.2) hm.2
  have V' : LV_ x u μ' := ⟨(fa_watch (xs (i + 1).toNatClampNeg) (1) (sm_ μ) A), by rw [es]; exact kp_watch (sB_im I).1.1 K, by rw [es]; exact Y', T'⟩
  rw [show (z_watch (xs (i + 1).toNatClampNeg) (1) (sm_ μ)).2.2 = sm_ μ' from (congrArg (fun q => q.2.2) hm.2).symm] at Z'
  refine lv_istore (lv' := [(6, .int r2), (5, .int r1), (4, .int i), (3, .ref o), (2, .ref (M.1 0)), (1, .ref x), (0, .ref b)]) F.1 F.2.1 dL_law__436 hl (by decide) rfl (fun ls hl => ?_)
  refine lv_goto (tgt := 1164) F.1 F.2.1 dL_law__438 (by decide) ?_
  exact kk _ _ _ _ _ C Z' I' V' (lv_sub hl [2, 3, 4, 5, 6] rfl)
set_option maxRecDepth 100000 in
set_option maxHeartbeats 4000000 in
theorem lc_crew (hlt : l.stackTraces = false) (F : CallFix p m c cL_law_ 8 s #[Value.ref b] kt_ RL) (hX : va_X b L xs s s.heap) (hbl : b < s.heap.size) (hbA : ¬ lx_A s b) (C : lx_C G M s H locs σ μ) (Z : yZ_ k (sm_ μ) x o σ) (I : im_ μ) (V : LV_ x σ μ) (hk : k < 600) (hv : ∀ j : Int32, 0 ≤ j.toInt → j.toInt ≤ 5 → vp_in (i + j) L) (hl : lv_has ls 8 [(4, .int i), (3, .ref o), (2, .ref (M.1 0)), (1, .ref x), (0, .ref b)])
    (kk : ∀ (ls : Array Slot) (σ' : kx_S) (μ' : km_S) (H : Heap) (locs : List Loc), lx_C G M s H locs σ' μ' → yZ_ (k + 1) (sm_ μ') x o σ' → im_ μ' → LV_ x σ' μ' → lv_has ls 8 [(4, .int i), (3, .ref o), (2, .ref (M.1 0)), (1, .ref x), (0, .ref b)] → lx_W p l e s m #[Value.ref b] below meth c H locs σ' Q (F0 m 1164 ls [])) : lx_W p l e s m #[Value.ref b] below meth c H locs σ Q (F0 m 441 ls []) := by
  obtain ⟨A, K, VC, VR⟩ := V
  refine lv_aload_n F.1 F.2.1 dL_law__441 rfl (lv_at hl 3 rfl) ?_
  refine lv_aload_n F.1 F.2.1 dL_law__442 rfl (lv_at hl 4 rfl) ?_
  refine lv_iload F.1 F.2.1 dL_law__443 (lv_at hl 0 rfl) ?_
  refine lv_iconst (v := 1) F.1 F.2.1 dL_law__445 (by decide) ?_
  refine lv_iadd F.1 F.2.1 dL_law__446 ?_
  refine va_sld F.1 F.2.1 hX hbl hbA C.1 (hv 1 (by decide) (by decide)) dL_law__447 ?_
  refine lv_aload_n F.1 F.2.1 dL_law__448 rfl (lv_at hl 4 rfl) ?_
  refine lv_iload F.1 F.2.1 dL_law__449 (lv_at hl 0 rfl) ?_
  refine lv_iconst (v := 2) F.1 F.2.1 dL_law__451 (by decide) ?_
  refine lv_iadd F.1 F.2.1 dL_law__452 ?_
  refine va_sld F.1 F.2.1 hX hbl hbA C.1 (hv 2 (by decide) (by decide)) dL_law__453 ?_
  refine lv_aload_n F.1 F.2.1 dL_law__454 rfl (lv_at hl 1 rfl) ?_
  refine lx_cS (As := [.ref x, .int (xs (i + 1).toNatClampNeg), .int (xs (i + 2).toNatClampNeg), .ref o]) (n := 4) F C (hw_crew l hlt G x (xs (i + 1).toNatClampNeg) (xs (i + 2).toNatClampNeg) o σ _ _ (fun _ u => yZ_ (k + 1) (z_crew (xs (i + 1).toNatClampNeg) (xs (i + 2).toNatClampNeg) (sm_ μ)).2.2 x o u ∧ fC_ (z_crew (xs (i + 1).toNatClampNeg) (xs (i + 2).toNatClampNeg) (sm_ μ)).2.2.1 (fa_crew (xs (i + 1).toNatClampNeg) (xs (i + 2).toNatClampNeg) (sm_ μ) A) x u) (yZ_x Z) (lf_crew hk Z I K VC VR) (fun r u h9 => ⟨(yZ_out h9.1.2.2).1, (yZ_out h9.1.2.2).2 _, fC_sal h9.2⟩) (fun E u h9 => ⟨h9.1.1, h9.1.2.2, h9.2⟩)) (kt_SH uv_47 uv_48 uv_13 uv_49) (by decide +kernel) ⟨Nat.le_of_ble_eq_true rfl, Nat.le_of_ble_eq_true rfl⟩ rfl hl.1 (by simp [Value.category]) dL_law__455 (fun v9 u H locs h9 C => ?_)
  obtain ⟨r1, ev, Z', Y'⟩ := h9
  subst ev
  refine lv_istore (lv' := [(5, .int r1), (4, .int i), (3, .ref o), (2, .ref (M.1 0)), (1, .ref x), (0, .ref b)]) F.1 F.2.1 dL_law__458 hl (by decide) rfl (fun ls hl => ?_)
  refine lv_aload_n F.1 F.2.1 dL_law__460 rfl (lv_at hl 3 rfl) ?_
  refine lv_aload_n F.1 F.2.1 dL_law__461 rfl (lv_at hl 5 rfl) ?_
  refine lv_iload F.1 F.2.1 dL_law__462 (lv_at hl 1 rfl) ?_
  refine lv_iconst (v := 1) F.1 F.2.1 dL_law__464 (by decide) ?_
  refine lv_iadd F.1 F.2.1 dL_law__465 ?_
  refine va_sld F.1 F.2.1 hX hbl hbA C.1 (hv 1 (by decide) (by decide)) dL_law__466 ?_
  refine lv_aload_n F.1 F.2.1 dL_law__467 rfl (lv_at hl 5 rfl) ?_
  refine lv_iload F.1 F.2.1 dL_law__468 (lv_at hl 1 rfl) ?_
  refine lv_iconst (v := 2) F.1 F.2.1 dL_law__470 (by decide) ?_
  refine lv_iadd F.1 F.2.1 dL_law__471 ?_
  refine va_sld F.1 F.2.1 hX hbl hbA C.1 (hv 2 (by decide) (by decide)) dL_law__472 ?_
  refine lx_mVi (As := [.int (xs (i + 1).toNatClampNeg), .int (xs (i + 2).toNatClampNeg)]) (n := 2) F C (hc_X12_crew l M (xs (i + 1).toNatClampNeg) (xs (i + 2).toNatClampNeg) μ _ (lm_crew I K VR)) (kt_V uv_50 uv_51 uv_52 uv_9 uv_53) (by decide +kernel) ⟨Nat.le_of_ble_eq_true rfl, Nat.le_of_ble_eq_true rfl⟩ rfl hl.1 (by simp [Value.category]) dL_law__473 (fun r2 μ' H locs hm C => ?_)
  obtain ⟨hm, T'⟩ := hm
  have I' := hm.1
  have es : sm_ μ' = (z_crew (xs (i + 1).toNatClampNeg) (xs (i + 2).toNatClampNeg) (sm_ μ)).2.2 := congrArg (fun q => q.2.2) hm.2
  have V' : LV_ x u μ' := ⟨(fa_crew (xs (i + 1).toNatClampNeg) (xs (i + 2).toNatClampNeg) (sm_ μ) A), by rw [es]; exact kp_crew (sB_im I).1.1 (sB_im I).2.2.1.1 (sB_im I).2.2.1.2 K, by rw [es]; exact Y', T'⟩
  rw [show (z_crew (xs (i + 1).toNatClampNeg) (xs (i + 2).toNatClampNeg) (sm_ μ)).2.2 = sm_ μ' from (congrArg (fun q => q.2.2) hm.2).symm] at Z'
  refine lv_istore (lv' := [(6, .int r2), (5, .int r1), (4, .int i), (3, .ref o), (2, .ref (M.1 0)), (1, .ref x), (0, .ref b)]) F.1 F.2.1 dL_law__476 hl (by decide) rfl (fun ls hl => ?_)
  refine lv_goto (tgt := 1164) F.1 F.2.1 dL_law__478 (by decide) ?_
  exact kk _ _ _ _ _ C Z' I' V' (lv_sub hl [2, 3, 4, 5, 6] rfl)
set_option maxRecDepth 100000 in
set_option maxHeartbeats 4000000 in
theorem lc_feed (hlt : l.stackTraces = false) (F : CallFix p m c cL_law_ 8 s #[Value.ref b] kt_ RL) (hX : va_X b L xs s s.heap) (hbl : b < s.heap.size) (hbA : ¬ lx_A s b) (C : lx_C G M s H locs σ μ) (Z : yZ_ k (sm_ μ) x o σ) (I : im_ μ) (V : LV_ x σ μ) (hk : k < 600) (hv : ∀ j : Int32, 0 ≤ j.toInt → j.toInt ≤ 5 → vp_in (i + j) L) (hl : lv_has ls 8 [(4, .int i), (3, .ref o), (2, .ref (M.1 0)), (1, .ref x), (0, .ref b)])
    (kk : ∀ (ls : Array Slot) (σ' : kx_S) (μ' : km_S) (H : Heap) (locs : List Loc), lx_C G M s H locs σ' μ' → yZ_ (k + 1) (sm_ μ') x o σ' → im_ μ' → LV_ x σ' μ' → lv_has ls 8 [(4, .int i), (3, .ref o), (2, .ref (M.1 0)), (1, .ref x), (0, .ref b)] → lx_W p l e s m #[Value.ref b] below meth c H locs σ' Q (F0 m 1164 ls [])) : lx_W p l e s m #[Value.ref b] below meth c H locs σ Q (F0 m 481 ls []) := by
  obtain ⟨A, K, VC, VR⟩ := V
  refine lv_aload_n F.1 F.2.1 dL_law__481 rfl (lv_at hl 3 rfl) ?_
  refine lv_aload_n F.1 F.2.1 dL_law__482 rfl (lv_at hl 4 rfl) ?_
  refine lv_iload F.1 F.2.1 dL_law__483 (lv_at hl 0 rfl) ?_
  refine lv_iconst (v := 1) F.1 F.2.1 dL_law__485 (by decide) ?_
  refine lv_iadd F.1 F.2.1 dL_law__486 ?_
  refine va_sld F.1 F.2.1 hX hbl hbA C.1 (hv 1 (by decide) (by decide)) dL_law__487 ?_
  refine lv_aload_n F.1 F.2.1 dL_law__488 rfl (lv_at hl 4 rfl) ?_
  refine lv_iload F.1 F.2.1 dL_law__489 (lv_at hl 0 rfl) ?_
  refine lv_iconst (v := 2) F.1 F.2.1 dL_law__491 (by decide) ?_
  refine lv_iadd F.1 F.2.1 dL_law__492 ?_
  refine va_sld F.1 F.2.1 hX hbl hbA C.1 (hv 2 (by decide) (by decide)) dL_law__493 ?_
  refine lv_aload_n F.1 F.2.1 dL_law__494 rfl (lv_at hl 4 rfl) ?_
  refine lv_iload F.1 F.2.1 dL_law__495 (lv_at hl 0 rfl) ?_
  refine lv_iconst (v := 3) F.1 F.2.1 dL_law__497 (by decide) ?_
  refine lv_iadd F.1 F.2.1 dL_law__498 ?_
  refine va_sld F.1 F.2.1 hX hbl hbA C.1 (hv 3 (by decide) (by decide)) dL_law__499 ?_
  refine lv_aload_n F.1 F.2.1 dL_law__500 rfl (lv_at hl 4 rfl) ?_
  refine lv_iload F.1 F.2.1 dL_law__501 (lv_at hl 0 rfl) ?_
  refine lv_iconst (v := 4) F.1 F.2.1 dL_law__503 (by decide) ?_
  refine lv_iadd F.1 F.2.1 dL_law__504 ?_
  refine va_sld F.1 F.2.1 hX hbl hbA C.1 (hv 4 (by decide) (by decide)) dL_law__505 ?_
  refine lv_aload_n F.1 F.2.1 dL_law__506 rfl (lv_at hl 4 rfl) ?_
  refine lv_iload F.1 F.2.1 dL_law__507 (lv_at hl 0 rfl) ?_
  refine lv_iconst (v := 5) F.1 F.2.1 dL_law__509 (by decide) ?_
  refine lv_iadd F.1 F.2.1 dL_law__510 ?_
  refine va_sld F.1 F.2.1 hX hbl hbA C.1 (hv 5 (by decide) (by decide)) dL_law__511 ?_
  refine lx_cV (As := [.int (xs (i + 1).toNatClampNeg), .int (xs (i + 2).toNatClampNeg), .int (xs (i + 3).toNatClampNeg), .int (xs (i + 4).toNatClampNeg), .int (xs (i + 5).toNatClampNeg)]) (n := 5) F C (hx_X11_feed l G x (xs (i + 1).toNatClampNeg) (xs (i + 2).toNatClampNeg) (xs (i + 3).toNatClampNeg) (xs (i + 4).toNatClampNeg) (xs (i + 5).toNatClampNeg) σ _ (lf_feed hk Z I K VC VR)) (kt_V uv_54 uv_55 uv_56 uv_4 uv_57) (by decide +kernel) ⟨Nat.le_of_ble_eq_true rfl, Nat.le_of_ble_eq_true rfl⟩ (yZ_x Z) rfl hl.1 (by simp [Value.category]) dL_law__512 (fun v9 u H locs h9 C => ?_)
  obtain ⟨r1, ev, hq, Y'⟩ := h9
  subst ev
  have Z' := hq.2.2
  refine lv_pop F.1 F.2.1 dL_law__515 rfl ?_
  refine lv_aload_n F.1 F.2.1 dL_law__516 rfl (lv_at hl 2 rfl) ?_
  refine lv_aload_n F.1 F.2.1 dL_law__517 rfl (lv_at hl 4 rfl) ?_
  refine lv_iload F.1 F.2.1 dL_law__518 (lv_at hl 0 rfl) ?_
  refine lv_iconst (v := 1) F.1 F.2.1 dL_law__520 (by decide) ?_
  refine lv_iadd F.1 F.2.1 dL_law__521 ?_
  refine va_sld F.1 F.2.1 hX hbl hbA C.1 (hv 1 (by decide) (by decide)) dL_law__522 ?_
  refine lv_aload_n F.1 F.2.1 dL_law__523 rfl (lv_at hl 4 rfl) ?_
  refine lv_iload F.1 F.2.1 dL_law__524 (lv_at hl 0 rfl) ?_
  refine lv_iconst (v := 2) F.1 F.2.1 dL_law__526 (by decide) ?_
  refine lv_iadd F.1 F.2.1 dL_law__527 ?_
  refine va_sld F.1 F.2.1 hX hbl hbA C.1 (hv 2 (by decide) (by decide)) dL_law__528 ?_
  refine lv_aload_n F.1 F.2.1 dL_law__529 rfl (lv_at hl 4 rfl) ?_
  refine lv_iload F.1 F.2.1 dL_law__530 (lv_at hl 0 rfl) ?_
  refine lv_iconst (v := 3) F.1 F.2.1 dL_law__532 (by decide) ?_
  refine lv_iadd F.1 F.2.1 dL_law__533 ?_
  refine va_sld F.1 F.2.1 hX hbl hbA C.1 (hv 3 (by decide) (by decide)) dL_law__534 ?_
  refine lv_aload_n F.1 F.2.1 dL_law__535 rfl (lv_at hl 4 rfl) ?_
  refine lv_iload F.1 F.2.1 dL_law__536 (lv_at hl 0 rfl) ?_
  refine lv_iconst (v := 4) F.1 F.2.1 dL_law__538 (by decide) ?_
  refine lv_iadd F.1 F.2.1 dL_law__539 ?_
  refine va_sld F.1 F.2.1 hX hbl hbA C.1 (hv 4 (by decide) (by decide)) dL_law__540 ?_
  refine lv_aload_n F.1 F.2.1 dL_law__541 rfl (lv_at hl 4 rfl) ?_
  refine lv_iload F.1 F.2.1 dL_law__542 (lv_at hl 0 rfl) ?_
  refine lv_iconst (v := 5) F.1 F.2.1 dL_law__544 (by decide) ?_
  refine lv_iadd F.1 F.2.1 dL_law__545 ?_
  refine va_sld F.1 F.2.1 hX hbl hbA C.1 (hv 5 (by decide) (by decide)) dL_law__546 ?_
  refine lx_mVi (As := [.int (xs (i + 1).toNatClampNeg), .int (xs (i + 2).toNatClampNeg), .int (xs (i + 3).toNatClampNeg), .int (xs (i + 4).toNatClampNeg), .int (xs (i + 5).toNatClampNeg)]) (n := 5) F C (hc_X12_feed l M (xs (i + 1).toNatClampNeg) (xs (i + 2).toNatClampNeg) (xs (i + 3).toNatClampNeg) (xs (i + 4).toNatClampNeg) (xs (i + 5).toNatClampNeg) μ _ (lm_feed I K VR)) (kt_V uv_58 uv_59 uv_60 uv_9 uv_61) (by decide +kernel) ⟨Nat.le_of_ble_eq_true rfl, Nat.le_of_ble_eq_true rfl⟩ rfl hl.1 (by simp [Value.category]) dL_law__547 (fun r2 μ' H locs hm C => ?_)
  obtain ⟨hm, T'⟩ := hm
  have I' := hm.1
  have es : sm_ μ' = (z_feed (sm_ μ)).2.2 := congrArg (fun q => q.2.2) hm.2
  have V' : LV_ x u μ' := ⟨(fa_feed (xs (i + 1).toNatClampNeg) (xs (i + 2).toNatClampNeg) (xs (i + 3).toNatClampNeg) (xs (i + 4).toNatClampNeg) (xs (i + 5).toNatClampNeg) (sm_ μ) A), by rw [es]; exact kp_feed K, by rw [es]; exact Y', T'⟩
  rw [show (z_feed (sm_ μ)).2.2 = sm_ μ' from (congrArg (fun q => q.2.2) hm.2).symm] at Z'
  have er : r1 = r2 := hq.2.1.trans (congrArg (fun q => q.2.1) hm.2).symm
  refine lv_pop F.1 F.2.1 dL_law__550 rfl ?_
  refine lv_goto (tgt := 1164) F.1 F.2.1 dL_law__551 (by decide) ?_
  exact kk _ _ _ _ _ C Z' I' V' (lv_sub hl [0, 1, 2, 3, 4] rfl)
set_option maxRecDepth 100000 in
set_option maxHeartbeats 4000000 in
theorem lc_law (hlt : l.stackTraces = false) (F : CallFix p m c cL_law_ 8 s #[Value.ref b] kt_ RL) (hX : va_X b L xs s s.heap) (hbl : b < s.heap.size) (hbA : ¬ lx_A s b) (C : lx_C G M s H locs σ μ) (Z : yZ_ k (sm_ μ) x o σ) (I : im_ μ) (V : LV_ x σ μ) (hk : k < 600) (hv : ∀ j : Int32, 0 ≤ j.toInt → j.toInt ≤ 5 → vp_in (i + j) L) (hl : lv_has ls 8 [(4, .int i), (3, .ref o), (2, .ref (M.1 0)), (1, .ref x), (0, .ref b)])
    (kk : ∀ (ls : Array Slot) (σ' : kx_S) (μ' : km_S) (H : Heap) (locs : List Loc), lx_C G M s H locs σ' μ' → yZ_ (k + 1) (sm_ μ') x o σ' → im_ μ' → LV_ x σ' μ' → lv_has ls 8 [(4, .int i), (3, .ref o), (2, .ref (M.1 0)), (1, .ref x), (0, .ref b)] → lx_W p l e s m #[Value.ref b] below meth c H locs σ' Q (F0 m 1164 ls [])) : lx_W p l e s m #[Value.ref b] below meth c H locs σ Q (F0 m 554 ls []) := by
  obtain ⟨A, K, VC, VR⟩ := V
  refine lv_aload_n F.1 F.2.1 dL_law__554 rfl (lv_at hl 3 rfl) ?_
  refine lv_aload_n F.1 F.2.1 dL_law__555 rfl (lv_at hl 4 rfl) ?_
  refine lv_iload F.1 F.2.1 dL_law__556 (lv_at hl 0 rfl) ?_
  refine lv_iconst (v := 1) F.1 F.2.1 dL_law__558 (by decide) ?_
  refine lv_iadd F.1 F.2.1 dL_law__559 ?_
  refine va_sld F.1 F.2.1 hX hbl hbA C.1 (hv 1 (by decide) (by decide)) dL_law__560 ?_
  refine lv_aload_n F.1 F.2.1 dL_law__561 rfl (lv_at hl 4 rfl) ?_
  refine lv_iload F.1 F.2.1 dL_law__562 (lv_at hl 0 rfl) ?_
  refine lv_iconst (v := 2) F.1 F.2.1 dL_law__564 (by decide) ?_
  refine lv_iadd F.1 F.2.1 dL_law__565 ?_
  refine va_sld F.1 F.2.1 hX hbl hbA C.1 (hv 2 (by decide) (by decide)) dL_law__566 ?_
  refine lv_aload_n F.1 F.2.1 dL_law__567 rfl (lv_at hl 1 rfl) ?_
  refine lx_cS (As := [.ref x, .int (xs (i + 1).toNatClampNeg), .int (xs (i + 2).toNatClampNeg), .ref o]) (n := 4) F C (hw_law l hlt G x (xs (i + 1).toNatClampNeg) (xs (i + 2).toNatClampNeg) o σ _ _ (fun _ u => yZ_ (k + 1) (z_law (xs (i + 1).toNatClampNeg) (xs (i + 2).toNatClampNeg) (sm_ μ)).2 x o u ∧ fC_ (z_law (xs (i + 1).toNatClampNeg) (xs (i + 2).toNatClampNeg) (sm_ μ)).2.1 (fa_law (xs (i + 1).toNatClampNeg) (xs (i + 2).toNatClampNeg) (sm_ μ) A) x u) (yZ_x Z) (lf_law hk Z I K VC VR) (fun r u h9 => ⟨(yZ_out h9.1.2).1, (yZ_out h9.1.2).2 _, fC_sal h9.2⟩) (fun E u h9 => ⟨h9.1.1, h9.1.2.2, h9.2⟩)) (kt_SH uv_62 uv_63 uv_13 uv_64) (by decide +kernel) ⟨Nat.le_of_ble_eq_true rfl, Nat.le_of_ble_eq_true rfl⟩ rfl hl.1 (by simp [Value.category]) dL_law__568 (fun v9 u H locs h9 C => ?_)
  obtain ⟨r1, ev, Z', Y'⟩ := h9
  subst ev
  refine lv_istore (lv' := [(5, .int r1), (4, .int i), (3, .ref o), (2, .ref (M.1 0)), (1, .ref x), (0, .ref b)]) F.1 F.2.1 dL_law__571 hl (by decide) rfl (fun ls hl => ?_)
  refine lv_aload_n F.1 F.2.1 dL_law__573 rfl (lv_at hl 3 rfl) ?_
  refine lv_aload_n F.1 F.2.1 dL_law__574 rfl (lv_at hl 5 rfl) ?_
  refine lv_iload F.1 F.2.1 dL_law__575 (lv_at hl 1 rfl) ?_
  refine lv_iconst (v := 1) F.1 F.2.1 dL_law__577 (by decide) ?_
  refine lv_iadd F.1 F.2.1 dL_law__578 ?_
  refine va_sld F.1 F.2.1 hX hbl hbA C.1 (hv 1 (by decide) (by decide)) dL_law__579 ?_
  refine lv_aload_n F.1 F.2.1 dL_law__580 rfl (lv_at hl 5 rfl) ?_
  refine lv_iload F.1 F.2.1 dL_law__581 (lv_at hl 1 rfl) ?_
  refine lv_iconst (v := 2) F.1 F.2.1 dL_law__583 (by decide) ?_
  refine lv_iadd F.1 F.2.1 dL_law__584 ?_
  refine va_sld F.1 F.2.1 hX hbl hbA C.1 (hv 2 (by decide) (by decide)) dL_law__585 ?_
  refine lx_mVi (As := [.int (xs (i + 1).toNatClampNeg), .int (xs (i + 2).toNatClampNeg)]) (n := 2) F C (hc_X12_law l M (xs (i + 1).toNatClampNeg) (xs (i + 2).toNatClampNeg) μ _ (lm_law I K VR)) (kt_V uv_65 uv_66 uv_67 uv_9 uv_68) (by decide +kernel) ⟨Nat.le_of_ble_eq_true rfl, Nat.le_of_ble_eq_true rfl⟩ rfl hl.1 (by simp [Value.category]) dL_law__586 (fun r2 μ' H locs hm C => ?_)
  obtain ⟨hm, T'⟩ := hm
  have I' := hm.1
  have es : sm_ μ' = (z_law (xs (i + 1).toNatClampNeg) (xs (i + 2).toNatClampNeg) (sm_ μ)).2 := congrArg (fun q => q.2) hm.2
  have V' : LV_ x u μ' := ⟨(fa_law (xs (i + 1).toNatClampNeg) (xs (i + 2).toNatClampNeg) (sm_ μ) A), by rw [es]; exact kp_law K Y', by rw [es]; exact Y', T'⟩
  rw [show (z_law (xs (i + 1).toNatClampNeg) (xs (i + 2).toNatClampNeg) (sm_ μ)).2 = sm_ μ' from (congrArg (fun q => q.2) hm.2).symm] at Z'
  refine lv_istore (lv' := [(6, .int r2), (5, .int r1), (4, .int i), (3, .ref o), (2, .ref (M.1 0)), (1, .ref x), (0, .ref b)]) F.1 F.2.1 dL_law__589 hl (by decide) rfl (fun ls hl => ?_)
  refine lv_goto (tgt := 1164) F.1 F.2.1 dL_law__591 (by decide) ?_
  exact kk _ _ _ _ _ C Z' I' V' (lv_sub hl [2, 3, 4, 5, 6] rfl)
set_option maxRecDepth 100000 in
set_option maxHeartbeats 4000000 in
theorem lc_fault (hlt : l.stackTraces = false) (F : CallFix p m c cL_law_ 8 s #[Value.ref b] kt_ RL) (hX : va_X b L xs s s.heap) (hbl : b < s.heap.size) (hbA : ¬ lx_A s b) (C : lx_C G M s H locs σ μ) (Z : yZ_ k (sm_ μ) x o σ) (I : im_ μ) (V : LV_ x σ μ) (hk : k < 600) (hv : ∀ j : Int32, 0 ≤ j.toInt → j.toInt ≤ 5 → vp_in (i + j) L) (hl : lv_has ls 8 [(4, .int i), (3, .ref o), (2, .ref (M.1 0)), (1, .ref x), (0, .ref b)])
    (kk : ∀ (ls : Array Slot) (σ' : kx_S) (μ' : km_S) (H : Heap) (locs : List Loc), lx_C G M s H locs σ' μ' → yZ_ (k + 1) (sm_ μ') x o σ' → im_ μ' → LV_ x σ' μ' → lv_has ls 8 [(4, .int i), (3, .ref o), (2, .ref (M.1 0)), (1, .ref x), (0, .ref b)] → lx_W p l e s m #[Value.ref b] below meth c H locs σ' Q (F0 m 1164 ls [])) : lx_W p l e s m #[Value.ref b] below meth c H locs σ Q (F0 m 594 ls []) := by
  obtain ⟨A, K, VC, VR⟩ := V
  refine lv_aload_n F.1 F.2.1 dL_law__594 rfl (lv_at hl 3 rfl) ?_
  refine lx_cV (As := []) (n := 0) F C (hx_X11_fault l G x  σ _ (lf_fault hk Z I K VC VR)) (kt_V uv_69 uv_70 uv_71 uv_4 uv_72) (by decide +kernel) ⟨Nat.le_of_ble_eq_true rfl, Nat.le_of_ble_eq_true rfl⟩ (yZ_x Z) rfl hl.1 (by simp [Value.category]) dL_law__595 (fun v9 u H locs h9 C => ?_)
  obtain ⟨r1, ev, hq, Y', ef1⟩ := h9
  subst ev
  have Z' := hq
  refine lv_aload_n F.1 F.2.1 dL_law__598 rfl (lv_at hl 2 rfl) ?_
  refine lx_mVi (As := []) (n := 0) F C (hc_X12_fault l M  μ _ (lm_fault I K VR)) (kt_V uv_73 uv_74 uv_75 uv_9 uv_76) (by decide +kernel) ⟨Nat.le_of_ble_eq_true rfl, Nat.le_of_ble_eq_true rfl⟩ rfl hl.1 (by simp [Value.category]) dL_law__599 (fun r2 μ' H locs hm C => ?_)
  obtain ⟨hm, T', ef2⟩ := hm
  have I' := hm.1
  have es : sm_ μ' = sm_ μ := hm.2
  have V' : LV_ x u μ' := ⟨A, by rw [es]; exact K, by rw [es]; exact Y', T'⟩
  have er : r1 = r2 := ef1.trans ef2.symm
  rw [← hm.2] at Z'
  refine lv_icmp_eq (tgt := 1164) F.1 F.2.1 dL_law__602 (by decide) (fun _ => ?_) (fun c9 => absurd er c9)
  exact kk _ _ _ _ _ C Z' I' V' (lv_sub hl [0, 1, 2, 3, 4] rfl)
set_option maxRecDepth 100000 in
set_option maxHeartbeats 4000000 in
theorem lc_cut (hlt : l.stackTraces = false) (F : CallFix p m c cL_law_ 8 s #[Value.ref b] kt_ RL) (hX : va_X b L xs s s.heap) (hbl : b < s.heap.size) (hbA : ¬ lx_A s b) (C : lx_C G M s H locs σ μ) (Z : yZ_ k (sm_ μ) x o σ) (I : im_ μ) (V : LV_ x σ μ) (hk : k < 600) (hv : ∀ j : Int32, 0 ≤ j.toInt → j.toInt ≤ 5 → vp_in (i + j) L) (hl : lv_has ls 8 [(4, .int i), (3, .ref o), (2, .ref (M.1 0)), (1, .ref x), (0, .ref b)])
    (kk : ∀ (ls : Array Slot) (σ' : kx_S) (μ' : km_S) (H : Heap) (locs : List Loc), lx_C G M s H locs σ' μ' → yZ_ (k + 1) (sm_ μ') x o σ' → im_ μ' → LV_ x σ' μ' → lv_has ls 8 [(4, .int i), (3, .ref o), (2, .ref (M.1 0)), (1, .ref x), (0, .ref b)] → lx_W p l e s m #[Value.ref b] below meth c H locs σ' Q (F0 m 1164 ls [])) : lx_W p l e s m #[Value.ref b] below meth c H locs σ Q (F0 m 607 ls []) := by
  obtain ⟨A, K, VC, VR⟩ := V
  refine lv_aload_n F.1 F.2.1 dL_law__607 rfl (lv_at hl 3 rfl) ?_
  refine lv_aload_n F.1 F.2.1 dL_law__608 rfl (lv_at hl 4 rfl) ?_
  refine lv_iload F.1 F.2.1 dL_law__609 (lv_at hl 0 rfl) ?_
  refine lv_iconst (v := 1) F.1 F.2.1 dL_law__611 (by decide) ?_
  refine lv_iadd F.1 F.2.1 dL_law__612 ?_
  refine va_sld F.1 F.2.1 hX hbl hbA C.1 (hv 1 (by decide) (by decide)) dL_law__613 ?_
  refine lv_aload_n F.1 F.2.1 dL_law__614 rfl (lv_at hl 4 rfl) ?_
  refine lv_iload F.1 F.2.1 dL_law__615 (lv_at hl 0 rfl) ?_
  refine lv_iconst (v := 2) F.1 F.2.1 dL_law__617 (by decide) ?_
  refine lv_iadd F.1 F.2.1 dL_law__618 ?_
  refine va_sld F.1 F.2.1 hX hbl hbA C.1 (hv 2 (by decide) (by decide)) dL_law__619 ?_
  refine lv_aload_n F.1 F.2.1 dL_law__620 rfl (lv_at hl 4 rfl) ?_
  refine lv_iload F.1 F.2.1 dL_law__621 (lv_at hl 0 rfl) ?_
  refine lv_iconst (v := 3) F.1 F.2.1 dL_law__623 (by decide) ?_
  refine lv_iadd F.1 F.2.1 dL_law__624 ?_
  refine va_sld F.1 F.2.1 hX hbl hbA C.1 (hv 3 (by decide) (by decide)) dL_law__625 ?_
  refine lx_cV (As := [.int (xs (i + 1).toNatClampNeg), .int (xs (i + 2).toNatClampNeg), .int (xs (i + 3).toNatClampNeg)]) (n := 3) F C (hx_X11_cut l G x (xs (i + 1).toNatClampNeg) (xs (i + 2).toNatClampNeg) (xs (i + 3).toNatClampNeg) σ _ (lf_cut hk Z I K VC VR)) (kt_V uv_77 uv_78 uv_79 uv_4 uv_80) (by decide +kernel) ⟨Nat.le_of_ble_eq_true rfl, Nat.le_of_ble_eq_true rfl⟩ (yZ_x Z) rfl hl.1 (by simp [Value.category]) dL_law__626 (fun v9 u H locs h9 C => ?_)
  obtain ⟨r1, ev, hq, Y'⟩ := h9
  subst ev
  have Z' := hq.2.2
  refine lv_pop F.1 F.2.1 dL_law__629 rfl ?_
  refine lv_aload_n F.1 F.2.1 dL_law__630 rfl (lv_at hl 2 rfl) ?_
  refine lv_aload_n F.1 F.2.1 dL_law__631 rfl (lv_at hl 4 rfl) ?_
  refine lv_iload F.1 F.2.1 dL_law__632 (lv_at hl 0 rfl) ?_
  refine lv_iconst (v := 1) F.1 F.2.1 dL_law__634 (by decide) ?_
  refine lv_iadd F.1 F.2.1 dL_law__635 ?_
  refine va_sld F.1 F.2.1 hX hbl hbA C.1 (hv 1 (by decide) (by decide)) dL_law__636 ?_
  refine lv_aload_n F.1 F.2.1 dL_law__637 rfl (lv_at hl 4 rfl) ?_
  refine lv_iload F.1 F.2.1 dL_law__638 (lv_at hl 0 rfl) ?_
  refine lv_iconst (v := 2) F.1 F.2.1 dL_law__640 (by decide) ?_
  refine lv_iadd F.1 F.2.1 dL_law__641 ?_
  refine va_sld F.1 F.2.1 hX hbl hbA C.1 (hv 2 (by decide) (by decide)) dL_law__642 ?_
  refine lv_aload_n F.1 F.2.1 dL_law__643 rfl (lv_at hl 4 rfl) ?_
  refine lv_iload F.1 F.2.1 dL_law__644 (lv_at hl 0 rfl) ?_
  refine lv_iconst (v := 3) F.1 F.2.1 dL_law__646 (by decide) ?_
  refine lv_iadd F.1 F.2.1 dL_law__647 ?_
  refine va_sld F.1 F.2.1 hX hbl hbA C.1 (hv 3 (by decide) (by decide)) dL_law__648 ?_
  refine lx_mVi (As := [.int (xs (i + 1).toNatClampNeg), .int (xs (i + 2).toNatClampNeg), .int (xs (i + 3).toNatClampNeg)]) (n := 3) F C (hc_X12_cut l M (xs (i + 1).toNatClampNeg) (xs (i + 2).toNatClampNeg) (xs (i + 3).toNatClampNeg) μ _ (lm_cut I K VR)) (kt_V uv_81 uv_82 uv_83 uv_9 uv_84) (by decide +kernel) ⟨Nat.le_of_ble_eq_true rfl, Nat.le_of_ble_eq_true rfl⟩ rfl hl.1 (by simp [Value.category]) dL_law__649 (fun r2 μ' H locs hm C => ?_)
  obtain ⟨hm, T'⟩ := hm
  have I' := hm.1
  have es : sm_ μ' = (z_cut (xs (i + 1).toNatClampNeg) (xs (i + 2).toNatClampNeg) (xs (i + 3).toNatClampNeg) (sm_ μ)).2.2 := congrArg (fun q => q.2.2) hm.2
  have V' : LV_ x u μ' := ⟨(fa_cut (xs (i + 1).toNatClampNeg) (xs (i + 2).toNatClampNeg) (xs (i + 3).toNatClampNeg) (sm_ μ) A), by rw [es]; exact kp_cut (sB_im I).2.1.1 (sB_im I).2.1.2 K, by rw [es]; exact Y', T'⟩
  rw [show (z_cut (xs (i + 1).toNatClampNeg) (xs (i + 2).toNatClampNeg) (xs (i + 3).toNatClampNeg) (sm_ μ)).2.2 = sm_ μ' from (congrArg (fun q => q.2.2) hm.2).symm] at Z'
  have er : r1 = r2 := hq.2.1.trans (congrArg (fun q => q.2.1) hm.2).symm
  refine lv_pop F.1 F.2.1 dL_law__652 rfl ?_
  refine lv_goto (tgt := 1164) F.1 F.2.1 dL_law__653 (by decide) ?_
  exact kk _ _ _ _ _ C Z' I' V' (lv_sub hl [0, 1, 2, 3, 4] rfl)
set_option maxRecDepth 100000 in
set_option maxHeartbeats 4000000 in
theorem lc_let (hlt : l.stackTraces = false) (F : CallFix p m c cL_law_ 8 s #[Value.ref b] kt_ RL) (hX : va_X b L xs s s.heap) (hbl : b < s.heap.size) (hbA : ¬ lx_A s b) (C : lx_C G M s H locs σ μ) (Z : yZ_ k (sm_ μ) x o σ) (I : im_ μ) (V : LV_ x σ μ) (hk : k < 600) (hv : ∀ j : Int32, 0 ≤ j.toInt → j.toInt ≤ 5 → vp_in (i + j) L) (hl : lv_has ls 8 [(4, .int i), (3, .ref o), (2, .ref (M.1 0)), (1, .ref x), (0, .ref b)])
    (kk : ∀ (ls : Array Slot) (σ' : kx_S) (μ' : km_S) (H : Heap) (locs : List Loc), lx_C G M s H locs σ' μ' → yZ_ (k + 1) (sm_ μ') x o σ' → im_ μ' → LV_ x σ' μ' → lv_has ls 8 [(4, .int i), (3, .ref o), (2, .ref (M.1 0)), (1, .ref x), (0, .ref b)] → lx_W p l e s m #[Value.ref b] below meth c H locs σ' Q (F0 m 1164 ls [])) : lx_W p l e s m #[Value.ref b] below meth c H locs σ Q (F0 m 656 ls []) := by
  obtain ⟨A, K, VC, VR⟩ := V
  refine lv_aload_n F.1 F.2.1 dL_law__656 rfl (lv_at hl 3 rfl) ?_
  refine lv_aload_n F.1 F.2.1 dL_law__657 rfl (lv_at hl 4 rfl) ?_
  refine lv_iload F.1 F.2.1 dL_law__658 (lv_at hl 0 rfl) ?_
  refine lv_iconst (v := 1) F.1 F.2.1 dL_law__660 (by decide) ?_
  refine lv_iadd F.1 F.2.1 dL_law__661 ?_
  refine va_sld F.1 F.2.1 hX hbl hbA C.1 (hv 1 (by decide) (by decide)) dL_law__662 ?_
  refine lv_aload_n F.1 F.2.1 dL_law__663 rfl (lv_at hl 4 rfl) ?_
  refine lv_iload F.1 F.2.1 dL_law__664 (lv_at hl 0 rfl) ?_
  refine lv_iconst (v := 2) F.1 F.2.1 dL_law__666 (by decide) ?_
  refine lv_iadd F.1 F.2.1 dL_law__667 ?_
  refine va_sld F.1 F.2.1 hX hbl hbA C.1 (hv 2 (by decide) (by decide)) dL_law__668 ?_
  refine lv_aload_n F.1 F.2.1 dL_law__669 rfl (lv_at hl 4 rfl) ?_
  refine lv_iload F.1 F.2.1 dL_law__670 (lv_at hl 0 rfl) ?_
  refine lv_iconst (v := 3) F.1 F.2.1 dL_law__672 (by decide) ?_
  refine lv_iadd F.1 F.2.1 dL_law__673 ?_
  refine va_sld F.1 F.2.1 hX hbl hbA C.1 (hv 3 (by decide) (by decide)) dL_law__674 ?_
  refine lv_aload_n F.1 F.2.1 dL_law__675 rfl (lv_at hl 1 rfl) ?_
  refine lx_cS (As := [.ref x, .int (xs (i + 1).toNatClampNeg), .int (xs (i + 2).toNatClampNeg), .int (xs (i + 3).toNatClampNeg), .ref o]) (n := 5) F C (hw_let l hlt G x (xs (i + 1).toNatClampNeg) (xs (i + 2).toNatClampNeg) (xs (i + 3).toNatClampNeg) o σ _ _ (fun _ u => yZ_ (k + 1) (sm_ μ) x o u ∧ fC_ (sm_ μ).1 (fa_let (xs (i + 1).toNatClampNeg) (xs (i + 2).toNatClampNeg) (xs (i + 3).toNatClampNeg) (sm_ μ) A) x u) (yZ_x Z) (lf_let hk Z I K VC VR) (fun r u h9 => ⟨(yZ_out h9.1).1, (yZ_out h9.1).2 _, fC_sal h9.2.1⟩) (fun E u h9 => ⟨h9.1.1, h9.1.2, h9.2.1⟩)) (kt_SH uv_85 uv_86 uv_13 uv_87) (by decide +kernel) ⟨Nat.le_of_ble_eq_true rfl, Nat.le_of_ble_eq_true rfl⟩ rfl hl.1 (by simp [Value.category]) dL_law__676 (fun v9 u H locs h9 C => ?_)
  obtain ⟨r1, ev, Z', Y'⟩ := h9
  subst ev
  refine lv_istore (lv' := [(5, .int r1), (4, .int i), (3, .ref o), (2, .ref (M.1 0)), (1, .ref x), (0, .ref b)]) F.1 F.2.1 dL_law__679 hl (by decide) rfl (fun ls hl => ?_)
  refine lv_aload_n F.1 F.2.1 dL_law__681 rfl (lv_at hl 3 rfl) ?_
  refine lv_aload_n F.1 F.2.1 dL_law__682 rfl (lv_at hl 5 rfl) ?_
  refine lv_iload F.1 F.2.1 dL_law__683 (lv_at hl 1 rfl) ?_
  refine lv_iconst (v := 1) F.1 F.2.1 dL_law__685 (by decide) ?_
  refine lv_iadd F.1 F.2.1 dL_law__686 ?_
  refine va_sld F.1 F.2.1 hX hbl hbA C.1 (hv 1 (by decide) (by decide)) dL_law__687 ?_
  refine lv_aload_n F.1 F.2.1 dL_law__688 rfl (lv_at hl 5 rfl) ?_
  refine lv_iload F.1 F.2.1 dL_law__689 (lv_at hl 1 rfl) ?_
  refine lv_iconst (v := 2) F.1 F.2.1 dL_law__691 (by decide) ?_
  refine lv_iadd F.1 F.2.1 dL_law__692 ?_
  refine va_sld F.1 F.2.1 hX hbl hbA C.1 (hv 2 (by decide) (by decide)) dL_law__693 ?_
  refine lv_aload_n F.1 F.2.1 dL_law__694 rfl (lv_at hl 5 rfl) ?_
  refine lv_iload F.1 F.2.1 dL_law__695 (lv_at hl 1 rfl) ?_
  refine lv_iconst (v := 3) F.1 F.2.1 dL_law__697 (by decide) ?_
  refine lv_iadd F.1 F.2.1 dL_law__698 ?_
  refine va_sld F.1 F.2.1 hX hbl hbA C.1 (hv 3 (by decide) (by decide)) dL_law__699 ?_
  refine lx_mVi (As := [.int (xs (i + 1).toNatClampNeg), .int (xs (i + 2).toNatClampNeg), .int (xs (i + 3).toNatClampNeg)]) (n := 3) F C (hc_X12_let l M (xs (i + 1).toNatClampNeg) (xs (i + 2).toNatClampNeg) (xs (i + 3).toNatClampNeg) μ _ (lm_let I K VR)) (kt_V uv_88 uv_89 uv_90 uv_9 uv_91) (by decide +kernel) ⟨Nat.le_of_ble_eq_true rfl, Nat.le_of_ble_eq_true rfl⟩ rfl hl.1 (by simp [Value.category]) dL_law__700 (fun r2 μ' H locs hm C => ?_)
  obtain ⟨hm, T', et0, eb0⟩ := hm
  have I' := hm.1
  have es : sm_ μ' = sm_ μ := hm.2
  have V' : LV_ x u μ' := ⟨(fa_let (xs (i + 1).toNatClampNeg) (xs (i + 2).toNatClampNeg) (xs (i + 3).toNatClampNeg) (sm_ μ) A), by rw [es]; exact kp_let (sB_im I).1.2 K, by rw [es]; exact Y', T'⟩
  rw [← hm.2] at Z'
  refine lv_istore (lv' := [(6, .int r2), (5, .int r1), (4, .int i), (3, .ref o), (2, .ref (M.1 0)), (1, .ref x), (0, .ref b)]) F.1 F.2.1 dL_law__703 hl (by decide) rfl (fun ls hl => ?_)
  refine lv_goto (tgt := 1164) F.1 F.2.1 dL_law__705 (by decide) ?_
  exact kk _ _ _ _ _ C Z' I' V' (lv_sub hl [2, 3, 4, 5, 6] rfl)
set_option maxRecDepth 100000 in
set_option maxHeartbeats 4000000 in
theorem lc_hours (hlt : l.stackTraces = false) (F : CallFix p m c cL_law_ 8 s #[Value.ref b] kt_ RL) (hX : va_X b L xs s s.heap) (hbl : b < s.heap.size) (hbA : ¬ lx_A s b) (C : lx_C G M s H locs σ μ) (Z : yZ_ k (sm_ μ) x o σ) (I : im_ μ) (V : LV_ x σ μ) (hk : k < 600) (hv : ∀ j : Int32, 0 ≤ j.toInt → j.toInt ≤ 5 → vp_in (i + j) L) (hl : lv_has ls 8 [(4, .int i), (3, .ref o), (2, .ref (M.1 0)), (1, .ref x), (0, .ref b)])
    (kk : ∀ (ls : Array Slot) (σ' : kx_S) (μ' : km_S) (H : Heap) (locs : List Loc), lx_C G M s H locs σ' μ' → yZ_ (k + 1) (sm_ μ') x o σ' → im_ μ' → LV_ x σ' μ' → lv_has ls 8 [(4, .int i), (3, .ref o), (2, .ref (M.1 0)), (1, .ref x), (0, .ref b)] → lx_W p l e s m #[Value.ref b] below meth c H locs σ' Q (F0 m 1164 ls [])) : lx_W p l e s m #[Value.ref b] below meth c H locs σ Q (F0 m 708 ls []) := by
  obtain ⟨A, K, VC, VR⟩ := V
  refine lv_aload_n F.1 F.2.1 dL_law__708 rfl (lv_at hl 3 rfl) ?_
  refine lv_aload_n F.1 F.2.1 dL_law__709 rfl (lv_at hl 4 rfl) ?_
  refine lv_iload F.1 F.2.1 dL_law__710 (lv_at hl 0 rfl) ?_
  refine lv_iconst (v := 1) F.1 F.2.1 dL_law__712 (by decide) ?_
  refine lv_iadd F.1 F.2.1 dL_law__713 ?_
  refine va_sld F.1 F.2.1 hX hbl hbA C.1 (hv 1 (by decide) (by decide)) dL_law__714 ?_
  refine lv_aload_n F.1 F.2.1 dL_law__715 rfl (lv_at hl 1 rfl) ?_
  refine lx_cS (As := [.ref x, .int (xs (i + 1).toNatClampNeg), .ref o]) (n := 3) F C (hw_hours l hlt G x (xs (i + 1).toNatClampNeg) o σ _ _ (fun _ u => yZ_ (k + 1) (z_hours (xs (i + 1).toNatClampNeg) (sm_ μ)).2.2 x o u ∧ fC_ (z_hours (xs (i + 1).toNatClampNeg) (sm_ μ)).2.2.1 (fa_hours (xs (i + 1).toNatClampNeg) (sm_ μ) A) x u) (yZ_x Z) (lf_hours hk Z I K VC VR) (fun r u h9 => ⟨(yZ_out h9.1.2.2).1, (yZ_out h9.1.2.2).2 _, fC_sal h9.2⟩) (fun E u h9 => ⟨h9.1.1, h9.1.2.2, h9.2⟩)) (kt_SH uv_92 uv_93 uv_13 uv_94) (by decide +kernel) ⟨Nat.le_of_ble_eq_true rfl, Nat.le_of_ble_eq_true rfl⟩ rfl hl.1 (by simp [Value.category]) dL_law__716 (fun v9 u H locs h9 C => ?_)
  obtain ⟨r1, ev, Z', Y'⟩ := h9
  subst ev
  refine lv_istore (lv' := [(5, .int r1), (4, .int i), (3, .ref o), (2, .ref (M.1 0)), (1, .ref x), (0, .ref b)]) F.1 F.2.1 dL_law__719 hl (by decide) rfl (fun ls hl => ?_)
  refine lv_aload_n F.1 F.2.1 dL_law__721 rfl (lv_at hl 3 rfl) ?_
  refine lv_aload_n F.1 F.2.1 dL_law__722 rfl (lv_at hl 5 rfl) ?_
  refine lv_iload F.1 F.2.1 dL_law__723 (lv_at hl 1 rfl) ?_
  refine lv_iconst (v := 1) F.1 F.2.1 dL_law__725 (by decide) ?_
  refine lv_iadd F.1 F.2.1 dL_law__726 ?_
  refine va_sld F.1 F.2.1 hX hbl hbA C.1 (hv 1 (by decide) (by decide)) dL_law__727 ?_
  refine lx_mVi (As := [.int (xs (i + 1).toNatClampNeg)]) (n := 1) F C (hc_X12_hours l M (xs (i + 1).toNatClampNeg) μ _ (lm_hours I K VR)) (kt_V uv_95 uv_96 uv_97 uv_9 uv_98) (by decide +kernel) ⟨Nat.le_of_ble_eq_true rfl, Nat.le_of_ble_eq_true rfl⟩ rfl hl.1 (by simp [Value.category]) dL_law__728 (fun r2 μ' H locs hm C => ?_)
  obtain ⟨hm, T'⟩ := hm
  have I' := hm.1
  have es : sm_ μ' = (z_hours (xs (i + 1).toNatClampNeg) (sm_ μ)).2.2 := congrArg (fun q => q.2.2) hm.2
  have V' : LV_ x u μ' := ⟨(fa_hours (xs (i + 1).toNatClampNeg) (sm_ μ) A), by rw [es]; exact kp_hours (sB_im I).1.2 K, by rw [es]; exact Y', T'⟩
  rw [show (z_hours (xs (i + 1).toNatClampNeg) (sm_ μ)).2.2 = sm_ μ' from (congrArg (fun q => q.2.2) hm.2).symm] at Z'
  refine lv_istore (lv' := [(6, .int r2), (5, .int r1), (4, .int i), (3, .ref o), (2, .ref (M.1 0)), (1, .ref x), (0, .ref b)]) F.1 F.2.1 dL_law__731 hl (by decide) rfl (fun ls hl => ?_)
  refine lv_goto (tgt := 1164) F.1 F.2.1 dL_law__733 (by decide) ?_
  exact kk _ _ _ _ _ C Z' I' V' (lv_sub hl [2, 3, 4, 5, 6] rfl)
set_option maxRecDepth 100000 in
set_option maxHeartbeats 4000000 in
theorem lc_order (hlt : l.stackTraces = false) (F : CallFix p m c cL_law_ 8 s #[Value.ref b] kt_ RL) (hX : va_X b L xs s s.heap) (hbl : b < s.heap.size) (hbA : ¬ lx_A s b) (C : lx_C G M s H locs σ μ) (Z : yZ_ k (sm_ μ) x o σ) (I : im_ μ) (V : LV_ x σ μ) (hk : k < 600) (hv : ∀ j : Int32, 0 ≤ j.toInt → j.toInt ≤ 5 → vp_in (i + j) L) (hl : lv_has ls 8 [(4, .int i), (3, .ref o), (2, .ref (M.1 0)), (1, .ref x), (0, .ref b)])
    (kk : ∀ (ls : Array Slot) (σ' : kx_S) (μ' : km_S) (H : Heap) (locs : List Loc), lx_C G M s H locs σ' μ' → yZ_ (k + 1) (sm_ μ') x o σ' → im_ μ' → LV_ x σ' μ' → lv_has ls 8 [(4, .int i), (3, .ref o), (2, .ref (M.1 0)), (1, .ref x), (0, .ref b)] → lx_W p l e s m #[Value.ref b] below meth c H locs σ' Q (F0 m 1164 ls [])) : lx_W p l e s m #[Value.ref b] below meth c H locs σ Q (F0 m 736 ls []) := by
  obtain ⟨A, K, VC, VR⟩ := V
  refine lv_aload_n F.1 F.2.1 dL_law__736 rfl (lv_at hl 3 rfl) ?_
  refine lv_aload_n F.1 F.2.1 dL_law__737 rfl (lv_at hl 4 rfl) ?_
  refine lv_iload F.1 F.2.1 dL_law__738 (lv_at hl 0 rfl) ?_
  refine lv_iconst (v := 1) F.1 F.2.1 dL_law__740 (by decide) ?_
  refine lv_iadd F.1 F.2.1 dL_law__741 ?_
  refine va_sld F.1 F.2.1 hX hbl hbA C.1 (hv 1 (by decide) (by decide)) dL_law__742 ?_
  refine lv_aload_n F.1 F.2.1 dL_law__743 rfl (lv_at hl 4 rfl) ?_
  refine lv_iload F.1 F.2.1 dL_law__744 (lv_at hl 0 rfl) ?_
  refine lv_iconst (v := 2) F.1 F.2.1 dL_law__746 (by decide) ?_
  refine lv_iadd F.1 F.2.1 dL_law__747 ?_
  refine va_sld F.1 F.2.1 hX hbl hbA C.1 (hv 2 (by decide) (by decide)) dL_law__748 ?_
  refine lv_aload_n F.1 F.2.1 dL_law__749 rfl (lv_at hl 4 rfl) ?_
  refine lv_iload F.1 F.2.1 dL_law__750 (lv_at hl 0 rfl) ?_
  refine lv_iconst (v := 3) F.1 F.2.1 dL_law__752 (by decide) ?_
  refine lv_iadd F.1 F.2.1 dL_law__753 ?_
  refine va_sld F.1 F.2.1 hX hbl hbA C.1 (hv 3 (by decide) (by decide)) dL_law__754 ?_
  refine lv_aload_n F.1 F.2.1 dL_law__755 rfl (lv_at hl 4 rfl) ?_
  refine lv_iload F.1 F.2.1 dL_law__756 (lv_at hl 0 rfl) ?_
  refine lv_iconst (v := 4) F.1 F.2.1 dL_law__758 (by decide) ?_
  refine lv_iadd F.1 F.2.1 dL_law__759 ?_
  refine va_sld F.1 F.2.1 hX hbl hbA C.1 (hv 4 (by decide) (by decide)) dL_law__760 ?_
  refine lv_aload_n F.1 F.2.1 dL_law__761 rfl (lv_at hl 1 rfl) ?_
  refine lx_cS (As := [.ref x, .int (xs (i + 1).toNatClampNeg), .int (xs (i + 2).toNatClampNeg), .int (xs (i + 3).toNatClampNeg), .int (xs (i + 4).toNatClampNeg), .ref o]) (n := 6) F C (hw_order l hlt G x (xs (i + 1).toNatClampNeg) (xs (i + 2).toNatClampNeg) (xs (i + 3).toNatClampNeg) (xs (i + 4).toNatClampNeg) o σ _ _ (fun _ u => yZ_ (k + 1) (z_order (xs (i + 1).toNatClampNeg) (xs (i + 2).toNatClampNeg) (xs (i + 3).toNatClampNeg) (xs (i + 4).toNatClampNeg) (sm_ μ)).2.2 x o u ∧ fC_ (z_order (xs (i + 1).toNatClampNeg) (xs (i + 2).toNatClampNeg) (xs (i + 3).toNatClampNeg) (xs (i + 4).toNatClampNeg) (sm_ μ)).2.2.1 (fa_order (xs (i + 1).toNatClampNeg) (xs (i + 2).toNatClampNeg) (xs (i + 3).toNatClampNeg) (xs (i + 4).toNatClampNeg) (sm_ μ) A) x u) (yZ_x Z) (lf_order hk Z I K VC VR) (fun r u h9 => ⟨(yZ_out h9.1.2.2).1, (yZ_out h9.1.2.2).2 _, fC_sal h9.2⟩) (fun E u h9 => ⟨h9.1.1, h9.1.2.2, h9.2⟩)) (kt_SH uv_99 uv_100 uv_13 uv_101) (by decide +kernel) ⟨Nat.le_of_ble_eq_true rfl, Nat.le_of_ble_eq_true rfl⟩ rfl hl.1 (by simp [Value.category]) dL_law__762 (fun v9 u H locs h9 C => ?_)
  obtain ⟨r1, ev, Z', Y'⟩ := h9
  subst ev
  refine lv_istore (lv' := [(5, .int r1), (4, .int i), (3, .ref o), (2, .ref (M.1 0)), (1, .ref x), (0, .ref b)]) F.1 F.2.1 dL_law__765 hl (by decide) rfl (fun ls hl => ?_)
  refine lv_aload_n F.1 F.2.1 dL_law__767 rfl (lv_at hl 3 rfl) ?_
  refine lv_aload_n F.1 F.2.1 dL_law__768 rfl (lv_at hl 5 rfl) ?_
  refine lv_iload F.1 F.2.1 dL_law__769 (lv_at hl 1 rfl) ?_
  refine lv_iconst (v := 1) F.1 F.2.1 dL_law__771 (by decide) ?_
  refine lv_iadd F.1 F.2.1 dL_law__772 ?_
  refine va_sld F.1 F.2.1 hX hbl hbA C.1 (hv 1 (by decide) (by decide)) dL_law__773 ?_
  refine lv_aload_n F.1 F.2.1 dL_law__774 rfl (lv_at hl 5 rfl) ?_
  refine lv_iload F.1 F.2.1 dL_law__775 (lv_at hl 1 rfl) ?_
  refine lv_iconst (v := 2) F.1 F.2.1 dL_law__777 (by decide) ?_
  refine lv_iadd F.1 F.2.1 dL_law__778 ?_
  refine va_sld F.1 F.2.1 hX hbl hbA C.1 (hv 2 (by decide) (by decide)) dL_law__779 ?_
  refine lv_aload_n F.1 F.2.1 dL_law__780 rfl (lv_at hl 5 rfl) ?_
  refine lv_iload F.1 F.2.1 dL_law__781 (lv_at hl 1 rfl) ?_
  refine lv_iconst (v := 3) F.1 F.2.1 dL_law__783 (by decide) ?_
  refine lv_iadd F.1 F.2.1 dL_law__784 ?_
  refine va_sld F.1 F.2.1 hX hbl hbA C.1 (hv 3 (by decide) (by decide)) dL_law__785 ?_
  refine lv_aload_n F.1 F.2.1 dL_law__786 rfl (lv_at hl 5 rfl) ?_
  refine lv_iload F.1 F.2.1 dL_law__787 (lv_at hl 1 rfl) ?_
  refine lv_iconst (v := 4) F.1 F.2.1 dL_law__789 (by decide) ?_
  refine lv_iadd F.1 F.2.1 dL_law__790 ?_
  refine va_sld F.1 F.2.1 hX hbl hbA C.1 (hv 4 (by decide) (by decide)) dL_law__791 ?_
  refine lx_mVi (As := [.int (xs (i + 1).toNatClampNeg), .int (xs (i + 2).toNatClampNeg), .int (xs (i + 3).toNatClampNeg), .int (xs (i + 4).toNatClampNeg)]) (n := 4) F C (hc_X12_order l M (xs (i + 1).toNatClampNeg) (xs (i + 2).toNatClampNeg) (xs (i + 3).toNatClampNeg) (xs (i + 4).toNatClampNeg) μ _ (lm_order I K VR)) (kt_V uv_102 uv_103 uv_104 uv_9 uv_105) (by decide +kernel) ⟨Nat.le_of_ble_eq_true rfl, Nat.le_of_ble_eq_true rfl⟩ rfl hl.1 (by simp [Value.category]) dL_law__792 (fun r2 μ' H locs hm C => ?_)
  obtain ⟨hm, T'⟩ := hm
  have I' := hm.1
  have es : sm_ μ' = (z_order (xs (i + 1).toNatClampNeg) (xs (i + 2).toNatClampNeg) (xs (i + 3).toNatClampNeg) (xs (i + 4).toNatClampNeg) (sm_ μ)).2.2 := congrArg (fun q => q.2.2) hm.2
  have V' : LV_ x u μ' := ⟨(fa_order (xs (i + 1).toNatClampNeg) (xs (i + 2).toNatClampNeg) (xs (i + 3).toNatClampNeg) (xs (i + 4).toNatClampNeg) (sm_ μ) A), by rw [es]; exact kp_order (sB_im I).2.2.2.1.1 (sB_im I).2.2.2.1.2 K, by rw [es]; exact Y', T'⟩
  rw [show (z_order (xs (i + 1).toNatClampNeg) (xs (i + 2).toNatClampNeg) (xs (i + 3).toNatClampNeg) (xs (i + 4).toNatClampNeg) (sm_ μ)).2.2 = sm_ μ' from (congrArg (fun q => q.2.2) hm.2).symm] at Z'
  refine lv_istore (lv' := [(6, .int r2), (5, .int r1), (4, .int i), (3, .ref o), (2, .ref (M.1 0)), (1, .ref x), (0, .ref b)]) F.1 F.2.1 dL_law__795 hl (by decide) rfl (fun ls hl => ?_)
  refine lv_goto (tgt := 1164) F.1 F.2.1 dL_law__797 (by decide) ?_
  exact kk _ _ _ _ _ C Z' I' V' (lv_sub hl [2, 3, 4, 5, 6] rfl)
set_option maxRecDepth 100000 in
set_option maxHeartbeats 4000000 in
theorem lc_wants (hlt : l.stackTraces = false) (F : CallFix p m c cL_law_ 8 s #[Value.ref b] kt_ RL) (hX : va_X b L xs s s.heap) (hbl : b < s.heap.size) (hbA : ¬ lx_A s b) (C : lx_C G M s H locs σ μ) (Z : yZ_ k (sm_ μ) x o σ) (I : im_ μ) (V : LV_ x σ μ) (hk : k < 600) (hv : ∀ j : Int32, 0 ≤ j.toInt → j.toInt ≤ 5 → vp_in (i + j) L) (hl : lv_has ls 8 [(4, .int i), (3, .ref o), (2, .ref (M.1 0)), (1, .ref x), (0, .ref b)])
    (kk : ∀ (ls : Array Slot) (σ' : kx_S) (μ' : km_S) (H : Heap) (locs : List Loc), lx_C G M s H locs σ' μ' → yZ_ (k + 1) (sm_ μ') x o σ' → im_ μ' → LV_ x σ' μ' → lv_has ls 8 [(4, .int i), (3, .ref o), (2, .ref (M.1 0)), (1, .ref x), (0, .ref b)] → lx_W p l e s m #[Value.ref b] below meth c H locs σ' Q (F0 m 1164 ls [])) : lx_W p l e s m #[Value.ref b] below meth c H locs σ Q (F0 m 800 ls []) := by
  obtain ⟨A, K, VC, VR⟩ := V
  refine lv_aload_n F.1 F.2.1 dL_law__800 rfl (lv_at hl 3 rfl) ?_
  refine lv_aload_n F.1 F.2.1 dL_law__801 rfl (lv_at hl 4 rfl) ?_
  refine lv_iload F.1 F.2.1 dL_law__802 (lv_at hl 0 rfl) ?_
  refine lv_iconst (v := 1) F.1 F.2.1 dL_law__804 (by decide) ?_
  refine lv_iadd F.1 F.2.1 dL_law__805 ?_
  refine va_sld F.1 F.2.1 hX hbl hbA C.1 (hv 1 (by decide) (by decide)) dL_law__806 ?_
  refine lv_aload_n F.1 F.2.1 dL_law__807 rfl (lv_at hl 1 rfl) ?_
  refine lx_cS (As := [.ref x, .int (xs (i + 1).toNatClampNeg), .ref o]) (n := 3) F C (hw_wants l hlt G x (xs (i + 1).toNatClampNeg) o σ _ _ (fun _ u => yZ_ (k + 1) (sm_ μ) x o u ∧ fC_ (sm_ μ).1 A x u) (yZ_x Z) (lf_wants hk Z I K VC VR) (fun r u h9 => ⟨(yZ_out h9.1).1, (yZ_out h9.1).2 _, fC_sal h9.2.1⟩) (fun E u h9 => ⟨h9.1.1, h9.1.2, h9.2.1⟩)) (kt_SH uv_106 uv_107 uv_13 uv_108) (by decide +kernel) ⟨Nat.le_of_ble_eq_true rfl, Nat.le_of_ble_eq_true rfl⟩ rfl hl.1 (by simp [Value.category]) dL_law__808 (fun v9 u H locs h9 C => ?_)
  obtain ⟨r1, ev, Z', Y'⟩ := h9
  subst ev
  refine lv_istore (lv' := [(5, .int r1), (4, .int i), (3, .ref o), (2, .ref (M.1 0)), (1, .ref x), (0, .ref b)]) F.1 F.2.1 dL_law__811 hl (by decide) rfl (fun ls hl => ?_)
  refine lv_aload_n F.1 F.2.1 dL_law__813 rfl (lv_at hl 3 rfl) ?_
  refine lv_aload_n F.1 F.2.1 dL_law__814 rfl (lv_at hl 5 rfl) ?_
  refine lv_iload F.1 F.2.1 dL_law__815 (lv_at hl 1 rfl) ?_
  refine lv_iconst (v := 1) F.1 F.2.1 dL_law__817 (by decide) ?_
  refine lv_iadd F.1 F.2.1 dL_law__818 ?_
  refine va_sld F.1 F.2.1 hX hbl hbA C.1 (hv 1 (by decide) (by decide)) dL_law__819 ?_
  refine lx_mVi (As := [.int (xs (i + 1).toNatClampNeg)]) (n := 1) F C (hc_X12_wants l M (xs (i + 1).toNatClampNeg) μ _ (lm_wants I K VR)) (kt_V uv_109 uv_110 uv_111 uv_9 uv_112) (by decide +kernel) ⟨Nat.le_of_ble_eq_true rfl, Nat.le_of_ble_eq_true rfl⟩ rfl hl.1 (by simp [Value.category]) dL_law__820 (fun r2 μ' H locs hm C => ?_)
  obtain ⟨hm, T', et0, eb0⟩ := hm
  have I' := hm.1
  have es : sm_ μ' = sm_ μ := hm.2
  have V' : LV_ x u μ' := ⟨A, by rw [es]; exact K, by rw [es]; exact Y', T'⟩
  rw [← hm.2] at Z'
  refine lv_istore (lv' := [(6, .int r2), (5, .int r1), (4, .int i), (3, .ref o), (2, .ref (M.1 0)), (1, .ref x), (0, .ref b)]) F.1 F.2.1 dL_law__823 hl (by decide) rfl (fun ls hl => ?_)
  refine lv_goto (tgt := 1164) F.1 F.2.1 dL_law__825 (by decide) ?_
  exact kk _ _ _ _ _ C Z' I' V' (lv_sub hl [2, 3, 4, 5, 6] rfl)
set_option maxRecDepth 100000 in
set_option maxHeartbeats 4000000 in
theorem lc_log (hlt : l.stackTraces = false) (F : CallFix p m c cL_law_ 8 s #[Value.ref b] kt_ RL) (hX : va_X b L xs s s.heap) (hbl : b < s.heap.size) (hbA : ¬ lx_A s b) (C : lx_C G M s H locs σ μ) (Z : yZ_ k (sm_ μ) x o σ) (I : im_ μ) (V : LV_ x σ μ) (hk : k < 600) (hv : ∀ j : Int32, 0 ≤ j.toInt → j.toInt ≤ 5 → vp_in (i + j) L) (hl : lv_has ls 8 [(4, .int i), (3, .ref o), (2, .ref (M.1 0)), (1, .ref x), (0, .ref b)])
    (kk : ∀ (ls : Array Slot) (σ' : kx_S) (μ' : km_S) (H : Heap) (locs : List Loc), lx_C G M s H locs σ' μ' → yZ_ (k + 1) (sm_ μ') x o σ' → im_ μ' → LV_ x σ' μ' → lv_has ls 8 [(4, .int i), (3, .ref o), (2, .ref (M.1 0)), (1, .ref x), (0, .ref b)] → lx_W p l e s m #[Value.ref b] below meth c H locs σ' Q (F0 m 1164 ls [])) : lx_W p l e s m #[Value.ref b] below meth c H locs σ Q (F0 m 828 ls []) := by
  obtain ⟨A, K, VC, VR⟩ := V
  refine lv_aload_n F.1 F.2.1 dL_law__828 rfl (lv_at hl 3 rfl) ?_
  refine lv_aload_n F.1 F.2.1 dL_law__829 rfl (lv_at hl 4 rfl) ?_
  refine lv_iload F.1 F.2.1 dL_law__830 (lv_at hl 0 rfl) ?_
  refine lv_iconst (v := 1) F.1 F.2.1 dL_law__832 (by decide) ?_
  refine lv_iadd F.1 F.2.1 dL_law__833 ?_
  refine va_sld F.1 F.2.1 hX hbl hbA C.1 (hv 1 (by decide) (by decide)) dL_law__834 ?_
  refine lv_aload_n F.1 F.2.1 dL_law__835 rfl (lv_at hl 4 rfl) ?_
  refine lv_iload F.1 F.2.1 dL_law__836 (lv_at hl 0 rfl) ?_
  refine lv_iconst (v := 2) F.1 F.2.1 dL_law__838 (by decide) ?_
  refine lv_iadd F.1 F.2.1 dL_law__839 ?_
  refine va_sld F.1 F.2.1 hX hbl hbA C.1 (hv 2 (by decide) (by decide)) dL_law__840 ?_
  refine lv_aload_n F.1 F.2.1 dL_law__841 rfl (lv_at hl 1 rfl) ?_
  refine lx_cS (As := [.ref x, .int (xs (i + 1).toNatClampNeg), .int (xs (i + 2).toNatClampNeg), .ref o]) (n := 4) F C (hw_log l hlt G x (xs (i + 1).toNatClampNeg) (xs (i + 2).toNatClampNeg) o σ _ _ (fun _ u => yZ_ (k + 1) (sm_ μ) x o u ∧ fC_ (sm_ μ).1 A x u) (yZ_x Z) (lf_log hk Z I K VC VR) (fun r u h9 => ⟨(yZ_out h9.1).1, (yZ_out h9.1).2 _, fC_sal h9.2.1⟩) (fun E u h9 => ⟨h9.1.1, h9.1.2, h9.2.1⟩)) (kt_SH uv_113 uv_114 uv_13 uv_115) (by decide +kernel) ⟨Nat.le_of_ble_eq_true rfl, Nat.le_of_ble_eq_true rfl⟩ rfl hl.1 (by simp [Value.category]) dL_law__842 (fun v9 u H locs h9 C => ?_)
  obtain ⟨r1, ev, Z', Y'⟩ := h9
  subst ev
  refine lv_istore (lv' := [(5, .int r1), (4, .int i), (3, .ref o), (2, .ref (M.1 0)), (1, .ref x), (0, .ref b)]) F.1 F.2.1 dL_law__845 hl (by decide) rfl (fun ls hl => ?_)
  refine lv_aload_n F.1 F.2.1 dL_law__847 rfl (lv_at hl 3 rfl) ?_
  refine lv_aload_n F.1 F.2.1 dL_law__848 rfl (lv_at hl 5 rfl) ?_
  refine lv_iload F.1 F.2.1 dL_law__849 (lv_at hl 1 rfl) ?_
  refine lv_iconst (v := 1) F.1 F.2.1 dL_law__851 (by decide) ?_
  refine lv_iadd F.1 F.2.1 dL_law__852 ?_
  refine va_sld F.1 F.2.1 hX hbl hbA C.1 (hv 1 (by decide) (by decide)) dL_law__853 ?_
  refine lv_aload_n F.1 F.2.1 dL_law__854 rfl (lv_at hl 5 rfl) ?_
  refine lv_iload F.1 F.2.1 dL_law__855 (lv_at hl 1 rfl) ?_
  refine lv_iconst (v := 2) F.1 F.2.1 dL_law__857 (by decide) ?_
  refine lv_iadd F.1 F.2.1 dL_law__858 ?_
  refine va_sld F.1 F.2.1 hX hbl hbA C.1 (hv 2 (by decide) (by decide)) dL_law__859 ?_
  refine lx_mVi (As := [.int (xs (i + 1).toNatClampNeg), .int (xs (i + 2).toNatClampNeg)]) (n := 2) F C (hc_X12_log l M (xs (i + 1).toNatClampNeg) (xs (i + 2).toNatClampNeg) μ _ (lm_log I K VR)) (kt_V uv_116 uv_117 uv_118 uv_9 uv_119) (by decide +kernel) ⟨Nat.le_of_ble_eq_true rfl, Nat.le_of_ble_eq_true rfl⟩ rfl hl.1 (by simp [Value.category]) dL_law__860 (fun r2 μ' H locs hm C => ?_)
  obtain ⟨hm, T', et0, eb0⟩ := hm
  have I' := hm.1
  have es : sm_ μ' = sm_ μ := hm.2
  have V' : LV_ x u μ' := ⟨A, by rw [es]; exact K, by rw [es]; exact Y', T'⟩
  rw [← hm.2] at Z'
  refine lv_istore (lv' := [(6, .int r2), (5, .int r1), (4, .int i), (3, .ref o), (2, .ref (M.1 0)), (1, .ref x), (0, .ref b)]) F.1 F.2.1 dL_law__863 hl (by decide) rfl (fun ls hl => ?_)
  refine lv_goto (tgt := 1164) F.1 F.2.1 dL_law__865 (by decide) ?_
  exact kk _ _ _ _ _ C Z' I' V' (lv_sub hl [2, 3, 4, 5, 6] rfl)
set_option maxRecDepth 100000 in
set_option maxHeartbeats 4000000 in
theorem lc_cell (hlt : l.stackTraces = false) (F : CallFix p m c cL_law_ 8 s #[Value.ref b] kt_ RL) (hX : va_X b L xs s s.heap) (hbl : b < s.heap.size) (hbA : ¬ lx_A s b) (C : lx_C G M s H locs σ μ) (Z : yZ_ k (sm_ μ) x o σ) (I : im_ μ) (V : LV_ x σ μ) (hk : k < 600) (hv : ∀ j : Int32, 0 ≤ j.toInt → j.toInt ≤ 5 → vp_in (i + j) L) (hl : lv_has ls 8 [(4, .int i), (3, .ref o), (2, .ref (M.1 0)), (1, .ref x), (0, .ref b)])
    (kk : ∀ (ls : Array Slot) (σ' : kx_S) (μ' : km_S) (H : Heap) (locs : List Loc), lx_C G M s H locs σ' μ' → yZ_ (k + 1) (sm_ μ') x o σ' → im_ μ' → LV_ x σ' μ' → lv_has ls 8 [(4, .int i), (3, .ref o), (2, .ref (M.1 0)), (1, .ref x), (0, .ref b)] → lx_W p l e s m #[Value.ref b] below meth c H locs σ' Q (F0 m 1164 ls [])) : lx_W p l e s m #[Value.ref b] below meth c H locs σ Q (F0 m 868 ls []) := by
  obtain ⟨A, K, VC, VR⟩ := V
  refine lv_aload_n F.1 F.2.1 dL_law__868 rfl (lv_at hl 3 rfl) ?_
  refine lv_aload_n F.1 F.2.1 dL_law__869 rfl (lv_at hl 4 rfl) ?_
  refine lv_iload F.1 F.2.1 dL_law__870 (lv_at hl 0 rfl) ?_
  refine lv_iconst (v := 1) F.1 F.2.1 dL_law__872 (by decide) ?_
  refine lv_iadd F.1 F.2.1 dL_law__873 ?_
  refine va_sld F.1 F.2.1 hX hbl hbA C.1 (hv 1 (by decide) (by decide)) dL_law__874 ?_
  refine lv_aload_n F.1 F.2.1 dL_law__875 rfl (lv_at hl 4 rfl) ?_
  refine lv_iload F.1 F.2.1 dL_law__876 (lv_at hl 0 rfl) ?_
  refine lv_iconst (v := 2) F.1 F.2.1 dL_law__878 (by decide) ?_
  refine lv_iadd F.1 F.2.1 dL_law__879 ?_
  refine va_sld F.1 F.2.1 hX hbl hbA C.1 (hv 2 (by decide) (by decide)) dL_law__880 ?_
  refine lv_aload_n F.1 F.2.1 dL_law__881 rfl (lv_at hl 4 rfl) ?_
  refine lv_iload F.1 F.2.1 dL_law__882 (lv_at hl 0 rfl) ?_
  refine lv_iconst (v := 3) F.1 F.2.1 dL_law__884 (by decide) ?_
  refine lv_iadd F.1 F.2.1 dL_law__885 ?_
  refine va_sld F.1 F.2.1 hX hbl hbA C.1 (hv 3 (by decide) (by decide)) dL_law__886 ?_
  refine lv_aload_n F.1 F.2.1 dL_law__887 rfl (lv_at hl 1 rfl) ?_
  refine lx_cS (As := [.ref x, .int (xs (i + 1).toNatClampNeg), .int (xs (i + 2).toNatClampNeg), .int (xs (i + 3).toNatClampNeg), .ref o]) (n := 5) F C (hw_cell l hlt G x (xs (i + 1).toNatClampNeg) (xs (i + 2).toNatClampNeg) (xs (i + 3).toNatClampNeg) o σ _ _ (fun _ u => yZ_ (k + 1) (sm_ μ) x o u ∧ fC_ (sm_ μ).1 A x u) (yZ_x Z) (lf_cell hk Z I K VC VR) (fun r u h9 => ⟨(yZ_out h9.1).1, (yZ_out h9.1).2 _, fC_sal h9.2.1⟩) (fun E u h9 => ⟨h9.1.1, h9.1.2, h9.2.1⟩)) (kt_SH uv_120 uv_121 uv_13 uv_122) (by decide +kernel) ⟨Nat.le_of_ble_eq_true rfl, Nat.le_of_ble_eq_true rfl⟩ rfl hl.1 (by simp [Value.category]) dL_law__888 (fun v9 u H locs h9 C => ?_)
  obtain ⟨r1, ev, Z', Y'⟩ := h9
  subst ev
  refine lv_istore (lv' := [(5, .int r1), (4, .int i), (3, .ref o), (2, .ref (M.1 0)), (1, .ref x), (0, .ref b)]) F.1 F.2.1 dL_law__891 hl (by decide) rfl (fun ls hl => ?_)
  refine lv_aload_n F.1 F.2.1 dL_law__893 rfl (lv_at hl 3 rfl) ?_
  refine lv_aload_n F.1 F.2.1 dL_law__894 rfl (lv_at hl 5 rfl) ?_
  refine lv_iload F.1 F.2.1 dL_law__895 (lv_at hl 1 rfl) ?_
  refine lv_iconst (v := 1) F.1 F.2.1 dL_law__897 (by decide) ?_
  refine lv_iadd F.1 F.2.1 dL_law__898 ?_
  refine va_sld F.1 F.2.1 hX hbl hbA C.1 (hv 1 (by decide) (by decide)) dL_law__899 ?_
  refine lv_aload_n F.1 F.2.1 dL_law__900 rfl (lv_at hl 5 rfl) ?_
  refine lv_iload F.1 F.2.1 dL_law__901 (lv_at hl 1 rfl) ?_
  refine lv_iconst (v := 2) F.1 F.2.1 dL_law__903 (by decide) ?_
  refine lv_iadd F.1 F.2.1 dL_law__904 ?_
  refine va_sld F.1 F.2.1 hX hbl hbA C.1 (hv 2 (by decide) (by decide)) dL_law__905 ?_
  refine lv_aload_n F.1 F.2.1 dL_law__906 rfl (lv_at hl 5 rfl) ?_
  refine lv_iload F.1 F.2.1 dL_law__907 (lv_at hl 1 rfl) ?_
  refine lv_iconst (v := 3) F.1 F.2.1 dL_law__909 (by decide) ?_
  refine lv_iadd F.1 F.2.1 dL_law__910 ?_
  refine va_sld F.1 F.2.1 hX hbl hbA C.1 (hv 3 (by decide) (by decide)) dL_law__911 ?_
  refine lx_mVi (As := [.int (xs (i + 1).toNatClampNeg), .int (xs (i + 2).toNatClampNeg), .int (xs (i + 3).toNatClampNeg)]) (n := 3) F C (hc_X12_cell l M (xs (i + 1).toNatClampNeg) (xs (i + 2).toNatClampNeg) (xs (i + 3).toNatClampNeg) μ _ (lm_cell I K VR)) (kt_V uv_123 uv_124 uv_125 uv_9 uv_126) (by decide +kernel) ⟨Nat.le_of_ble_eq_true rfl, Nat.le_of_ble_eq_true rfl⟩ rfl hl.1 (by simp [Value.category]) dL_law__912 (fun r2 μ' H locs hm C => ?_)
  obtain ⟨hm, T', et0, eb0⟩ := hm
  have I' := hm.1
  have es : sm_ μ' = sm_ μ := hm.2
  have V' : LV_ x u μ' := ⟨A, by rw [es]; exact K, by rw [es]; exact Y', T'⟩
  rw [← hm.2] at Z'
  refine lv_istore (lv' := [(6, .int r2), (5, .int r1), (4, .int i), (3, .ref o), (2, .ref (M.1 0)), (1, .ref x), (0, .ref b)]) F.1 F.2.1 dL_law__915 hl (by decide) rfl (fun ls hl => ?_)
  refine lv_goto (tgt := 1164) F.1 F.2.1 dL_law__917 (by decide) ?_
  exact kk _ _ _ _ _ C Z' I' V' (lv_sub hl [2, 3, 4, 5, 6] rfl)
set_option maxRecDepth 100000 in
set_option maxHeartbeats 4000000 in
theorem lc_inCell (hlt : l.stackTraces = false) (F : CallFix p m c cL_law_ 8 s #[Value.ref b] kt_ RL) (hX : va_X b L xs s s.heap) (hbl : b < s.heap.size) (hbA : ¬ lx_A s b) (C : lx_C G M s H locs σ μ) (Z : yZ_ k (sm_ μ) x o σ) (I : im_ μ) (V : LV_ x σ μ) (hk : k < 600) (hv : ∀ j : Int32, 0 ≤ j.toInt → j.toInt ≤ 5 → vp_in (i + j) L) (hl : lv_has ls 8 [(4, .int i), (3, .ref o), (2, .ref (M.1 0)), (1, .ref x), (0, .ref b)])
    (kk : ∀ (ls : Array Slot) (σ' : kx_S) (μ' : km_S) (H : Heap) (locs : List Loc), lx_C G M s H locs σ' μ' → yZ_ (k + 1) (sm_ μ') x o σ' → im_ μ' → LV_ x σ' μ' → lv_has ls 8 [(4, .int i), (3, .ref o), (2, .ref (M.1 0)), (1, .ref x), (0, .ref b)] → lx_W p l e s m #[Value.ref b] below meth c H locs σ' Q (F0 m 1164 ls [])) : lx_W p l e s m #[Value.ref b] below meth c H locs σ Q (F0 m 920 ls []) := by
  obtain ⟨A, K, VC, VR⟩ := V
  refine lv_aload_n F.1 F.2.1 dL_law__920 rfl (lv_at hl 3 rfl) ?_
  refine lv_aload_n F.1 F.2.1 dL_law__921 rfl (lv_at hl 4 rfl) ?_
  refine lv_iload F.1 F.2.1 dL_law__922 (lv_at hl 0 rfl) ?_
  refine lv_iconst (v := 1) F.1 F.2.1 dL_law__924 (by decide) ?_
  refine lv_iadd F.1 F.2.1 dL_law__925 ?_
  refine va_sld F.1 F.2.1 hX hbl hbA C.1 (hv 1 (by decide) (by decide)) dL_law__926 ?_
  refine lv_aload_n F.1 F.2.1 dL_law__927 rfl (lv_at hl 4 rfl) ?_
  refine lv_iload F.1 F.2.1 dL_law__928 (lv_at hl 0 rfl) ?_
  refine lv_iconst (v := 2) F.1 F.2.1 dL_law__930 (by decide) ?_
  refine lv_iadd F.1 F.2.1 dL_law__931 ?_
  refine va_sld F.1 F.2.1 hX hbl hbA C.1 (hv 2 (by decide) (by decide)) dL_law__932 ?_
  refine lv_aload_n F.1 F.2.1 dL_law__933 rfl (lv_at hl 4 rfl) ?_
  refine lv_iload F.1 F.2.1 dL_law__934 (lv_at hl 0 rfl) ?_
  refine lv_iconst (v := 3) F.1 F.2.1 dL_law__936 (by decide) ?_
  refine lv_iadd F.1 F.2.1 dL_law__937 ?_
  refine va_sld F.1 F.2.1 hX hbl hbA C.1 (hv 3 (by decide) (by decide)) dL_law__938 ?_
  refine lv_aload_n F.1 F.2.1 dL_law__939 rfl (lv_at hl 1 rfl) ?_
  refine lx_cS (As := [.ref x, .int (xs (i + 1).toNatClampNeg), .int (xs (i + 2).toNatClampNeg), .int (xs (i + 3).toNatClampNeg), .ref o]) (n := 5) F C (hw_inCell l hlt G x (xs (i + 1).toNatClampNeg) (xs (i + 2).toNatClampNeg) (xs (i + 3).toNatClampNeg) o σ _ _ (fun _ u => yZ_ (k + 1) (sm_ μ) x o u ∧ fC_ (sm_ μ).1 A x u) (yZ_x Z) (lf_inCell hk Z I K VC VR) (fun r u h9 => ⟨(yZ_out h9.1).1, (yZ_out h9.1).2 _, fC_sal h9.2.1⟩) (fun E u h9 => ⟨h9.1.1, h9.1.2, h9.2.1⟩)) (kt_SH uv_127 uv_128 uv_13 uv_129) (by decide +kernel) ⟨Nat.le_of_ble_eq_true rfl, Nat.le_of_ble_eq_true rfl⟩ rfl hl.1 (by simp [Value.category]) dL_law__940 (fun v9 u H locs h9 C => ?_)
  obtain ⟨r1, ev, Z', Y'⟩ := h9
  subst ev
  refine lv_istore (lv' := [(5, .int r1), (4, .int i), (3, .ref o), (2, .ref (M.1 0)), (1, .ref x), (0, .ref b)]) F.1 F.2.1 dL_law__943 hl (by decide) rfl (fun ls hl => ?_)
  refine lv_aload_n F.1 F.2.1 dL_law__945 rfl (lv_at hl 3 rfl) ?_
  refine lv_aload_n F.1 F.2.1 dL_law__946 rfl (lv_at hl 5 rfl) ?_
  refine lv_iload F.1 F.2.1 dL_law__947 (lv_at hl 1 rfl) ?_
  refine lv_iconst (v := 1) F.1 F.2.1 dL_law__949 (by decide) ?_
  refine lv_iadd F.1 F.2.1 dL_law__950 ?_
  refine va_sld F.1 F.2.1 hX hbl hbA C.1 (hv 1 (by decide) (by decide)) dL_law__951 ?_
  refine lv_aload_n F.1 F.2.1 dL_law__952 rfl (lv_at hl 5 rfl) ?_
  refine lv_iload F.1 F.2.1 dL_law__953 (lv_at hl 1 rfl) ?_
  refine lv_iconst (v := 2) F.1 F.2.1 dL_law__955 (by decide) ?_
  refine lv_iadd F.1 F.2.1 dL_law__956 ?_
  refine va_sld F.1 F.2.1 hX hbl hbA C.1 (hv 2 (by decide) (by decide)) dL_law__957 ?_
  refine lv_aload_n F.1 F.2.1 dL_law__958 rfl (lv_at hl 5 rfl) ?_
  refine lv_iload F.1 F.2.1 dL_law__959 (lv_at hl 1 rfl) ?_
  refine lv_iconst (v := 3) F.1 F.2.1 dL_law__961 (by decide) ?_
  refine lv_iadd F.1 F.2.1 dL_law__962 ?_
  refine va_sld F.1 F.2.1 hX hbl hbA C.1 (hv 3 (by decide) (by decide)) dL_law__963 ?_
  refine lx_mVi (As := [.int (xs (i + 1).toNatClampNeg), .int (xs (i + 2).toNatClampNeg), .int (xs (i + 3).toNatClampNeg)]) (n := 3) F C (hc_X12_inCell l M (xs (i + 1).toNatClampNeg) (xs (i + 2).toNatClampNeg) (xs (i + 3).toNatClampNeg) μ _ (lm_inCell I K VR)) (kt_V uv_130 uv_131 uv_132 uv_9 uv_133) (by decide +kernel) ⟨Nat.le_of_ble_eq_true rfl, Nat.le_of_ble_eq_true rfl⟩ rfl hl.1 (by simp [Value.category]) dL_law__964 (fun r2 μ' H locs hm C => ?_)
  obtain ⟨hm, T', et0, eb0⟩ := hm
  have I' := hm.1
  have es : sm_ μ' = sm_ μ := hm.2
  have V' : LV_ x u μ' := ⟨A, by rw [es]; exact K, by rw [es]; exact Y', T'⟩
  rw [← hm.2] at Z'
  refine lv_istore (lv' := [(6, .int r2), (5, .int r1), (4, .int i), (3, .ref o), (2, .ref (M.1 0)), (1, .ref x), (0, .ref b)]) F.1 F.2.1 dL_law__967 hl (by decide) rfl (fun ls hl => ?_)
  refine lv_goto (tgt := 1164) F.1 F.2.1 dL_law__969 (by decide) ?_
  exact kk _ _ _ _ _ C Z' I' V' (lv_sub hl [2, 3, 4, 5, 6] rfl)
set_option maxRecDepth 100000 in
set_option maxHeartbeats 4000000 in
theorem lc_heap (hlt : l.stackTraces = false) (F : CallFix p m c cL_law_ 8 s #[Value.ref b] kt_ RL) (hX : va_X b L xs s s.heap) (hbl : b < s.heap.size) (hbA : ¬ lx_A s b) (C : lx_C G M s H locs σ μ) (Z : yZ_ k (sm_ μ) x o σ) (I : im_ μ) (V : LV_ x σ μ) (hk : k < 600) (hv : ∀ j : Int32, 0 ≤ j.toInt → j.toInt ≤ 5 → vp_in (i + j) L) (hl : lv_has ls 8 [(4, .int i), (3, .ref o), (2, .ref (M.1 0)), (1, .ref x), (0, .ref b)])
    (kk : ∀ (ls : Array Slot) (σ' : kx_S) (μ' : km_S) (H : Heap) (locs : List Loc), lx_C G M s H locs σ' μ' → yZ_ (k + 1) (sm_ μ') x o σ' → im_ μ' → LV_ x σ' μ' → lv_has ls 8 [(4, .int i), (3, .ref o), (2, .ref (M.1 0)), (1, .ref x), (0, .ref b)] → lx_W p l e s m #[Value.ref b] below meth c H locs σ' Q (F0 m 1164 ls [])) : lx_W p l e s m #[Value.ref b] below meth c H locs σ Q (F0 m 972 ls []) := by
  obtain ⟨A, K, VC, VR⟩ := V
  refine lv_aload_n F.1 F.2.1 dL_law__972 rfl (lv_at hl 3 rfl) ?_
  refine lv_aload_n F.1 F.2.1 dL_law__973 rfl (lv_at hl 4 rfl) ?_
  refine lv_iload F.1 F.2.1 dL_law__974 (lv_at hl 0 rfl) ?_
  refine lv_iconst (v := 1) F.1 F.2.1 dL_law__976 (by decide) ?_
  refine lv_iadd F.1 F.2.1 dL_law__977 ?_
  refine va_sld F.1 F.2.1 hX hbl hbA C.1 (hv 1 (by decide) (by decide)) dL_law__978 ?_
  refine lv_aload_n F.1 F.2.1 dL_law__979 rfl (lv_at hl 4 rfl) ?_
  refine lv_iload F.1 F.2.1 dL_law__980 (lv_at hl 0 rfl) ?_
  refine lv_iconst (v := 2) F.1 F.2.1 dL_law__982 (by decide) ?_
  refine lv_iadd F.1 F.2.1 dL_law__983 ?_
  refine va_sld F.1 F.2.1 hX hbl hbA C.1 (hv 2 (by decide) (by decide)) dL_law__984 ?_
  refine lv_aload_n F.1 F.2.1 dL_law__985 rfl (lv_at hl 1 rfl) ?_
  refine lx_cS (As := [.ref x, .int (xs (i + 1).toNatClampNeg), .int (xs (i + 2).toNatClampNeg), .ref o]) (n := 4) F C (hw_heap l hlt G x (xs (i + 1).toNatClampNeg) (xs (i + 2).toNatClampNeg) o σ _ _ (fun _ u => yZ_ (k + 1) (sm_ μ) x o u ∧ fC_ (sm_ μ).1 A x u) (yZ_x Z) (lf_heap hk Z I K VC VR) (fun r u h9 => ⟨(yZ_out h9.1).1, (yZ_out h9.1).2 _, fC_sal h9.2.1⟩) (fun E u h9 => ⟨h9.1.1, h9.1.2, h9.2.1⟩)) (kt_SH uv_134 uv_135 uv_13 uv_136) (by decide +kernel) ⟨Nat.le_of_ble_eq_true rfl, Nat.le_of_ble_eq_true rfl⟩ rfl hl.1 (by simp [Value.category]) dL_law__986 (fun v9 u H locs h9 C => ?_)
  obtain ⟨r1, ev, Z', Y'⟩ := h9
  subst ev
  refine lv_istore (lv' := [(5, .int r1), (4, .int i), (3, .ref o), (2, .ref (M.1 0)), (1, .ref x), (0, .ref b)]) F.1 F.2.1 dL_law__989 hl (by decide) rfl (fun ls hl => ?_)
  refine lv_aload_n F.1 F.2.1 dL_law__991 rfl (lv_at hl 3 rfl) ?_
  refine lv_aload_n F.1 F.2.1 dL_law__992 rfl (lv_at hl 5 rfl) ?_
  refine lv_iload F.1 F.2.1 dL_law__993 (lv_at hl 1 rfl) ?_
  refine lv_iconst (v := 1) F.1 F.2.1 dL_law__995 (by decide) ?_
  refine lv_iadd F.1 F.2.1 dL_law__996 ?_
  refine va_sld F.1 F.2.1 hX hbl hbA C.1 (hv 1 (by decide) (by decide)) dL_law__997 ?_
  refine lv_aload_n F.1 F.2.1 dL_law__998 rfl (lv_at hl 5 rfl) ?_
  refine lv_iload F.1 F.2.1 dL_law__999 (lv_at hl 1 rfl) ?_
  refine lv_iconst (v := 2) F.1 F.2.1 dL_law__1001 (by decide) ?_
  refine lv_iadd F.1 F.2.1 dL_law__1002 ?_
  refine va_sld F.1 F.2.1 hX hbl hbA C.1 (hv 2 (by decide) (by decide)) dL_law__1003 ?_
  refine lx_mVi (As := [.int (xs (i + 1).toNatClampNeg), .int (xs (i + 2).toNatClampNeg)]) (n := 2) F C (hc_X12_heap l M (xs (i + 1).toNatClampNeg) (xs (i + 2).toNatClampNeg) μ _ (lm_heap I K VR)) (kt_V uv_137 uv_138 uv_139 uv_9 uv_140) (by decide +kernel) ⟨Nat.le_of_ble_eq_true rfl, Nat.le_of_ble_eq_true rfl⟩ rfl hl.1 (by simp [Value.category]) dL_law__1004 (fun r2 μ' H locs hm C => ?_)
  obtain ⟨hm, T', et0, eb0⟩ := hm
  have I' := hm.1
  have es : sm_ μ' = sm_ μ := hm.2
  have V' : LV_ x u μ' := ⟨A, by rw [es]; exact K, by rw [es]; exact Y', T'⟩
  rw [← hm.2] at Z'
  refine lv_istore (lv' := [(6, .int r2), (5, .int r1), (4, .int i), (3, .ref o), (2, .ref (M.1 0)), (1, .ref x), (0, .ref b)]) F.1 F.2.1 dL_law__1007 hl (by decide) rfl (fun ls hl => ?_)
  refine lv_goto (tgt := 1164) F.1 F.2.1 dL_law__1009 (by decide) ?_
  exact kk _ _ _ _ _ C Z' I' V' (lv_sub hl [2, 3, 4, 5, 6] rfl)
set_option maxRecDepth 100000 in
set_option maxHeartbeats 4000000 in
theorem lc_water (hlt : l.stackTraces = false) (F : CallFix p m c cL_law_ 8 s #[Value.ref b] kt_ RL) (hX : va_X b L xs s s.heap) (hbl : b < s.heap.size) (hbA : ¬ lx_A s b) (C : lx_C G M s H locs σ μ) (Z : yZ_ k (sm_ μ) x o σ) (I : im_ μ) (V : LV_ x σ μ) (hk : k < 600) (hv : ∀ j : Int32, 0 ≤ j.toInt → j.toInt ≤ 5 → vp_in (i + j) L) (hl : lv_has ls 8 [(4, .int i), (3, .ref o), (2, .ref (M.1 0)), (1, .ref x), (0, .ref b)])
    (kk : ∀ (ls : Array Slot) (σ' : kx_S) (μ' : km_S) (H : Heap) (locs : List Loc), lx_C G M s H locs σ' μ' → yZ_ (k + 1) (sm_ μ') x o σ' → im_ μ' → LV_ x σ' μ' → lv_has ls 8 [(4, .int i), (3, .ref o), (2, .ref (M.1 0)), (1, .ref x), (0, .ref b)] → lx_W p l e s m #[Value.ref b] below meth c H locs σ' Q (F0 m 1164 ls [])) : lx_W p l e s m #[Value.ref b] below meth c H locs σ Q (F0 m 1012 ls []) := by
  obtain ⟨A, K, VC, VR⟩ := V
  refine lv_aload_n F.1 F.2.1 dL_law__1012 rfl (lv_at hl 3 rfl) ?_
  refine lv_aload_n F.1 F.2.1 dL_law__1013 rfl (lv_at hl 4 rfl) ?_
  refine lv_iload F.1 F.2.1 dL_law__1014 (lv_at hl 0 rfl) ?_
  refine lv_iconst (v := 1) F.1 F.2.1 dL_law__1016 (by decide) ?_
  refine lv_iadd F.1 F.2.1 dL_law__1017 ?_
  refine va_sld F.1 F.2.1 hX hbl hbA C.1 (hv 1 (by decide) (by decide)) dL_law__1018 ?_
  refine lv_aload_n F.1 F.2.1 dL_law__1019 rfl (lv_at hl 4 rfl) ?_
  refine lv_iload F.1 F.2.1 dL_law__1020 (lv_at hl 0 rfl) ?_
  refine lv_iconst (v := 2) F.1 F.2.1 dL_law__1022 (by decide) ?_
  refine lv_iadd F.1 F.2.1 dL_law__1023 ?_
  refine va_sld F.1 F.2.1 hX hbl hbA C.1 (hv 2 (by decide) (by decide)) dL_law__1024 ?_
  refine lv_aload_n F.1 F.2.1 dL_law__1025 rfl (lv_at hl 1 rfl) ?_
  refine lx_cS (As := [.ref x, .int (xs (i + 1).toNatClampNeg), .int (xs (i + 2).toNatClampNeg), .ref o]) (n := 4) F C (hw_water l hlt G x (xs (i + 1).toNatClampNeg) (xs (i + 2).toNatClampNeg) o σ _ _ (fun _ u => yZ_ (k + 1) (sm_ μ) x o u ∧ fC_ (sm_ μ).1 A x u) (yZ_x Z) (lf_water hk Z I K VC VR) (fun r u h9 => ⟨(yZ_out h9.1).1, (yZ_out h9.1).2 _, fC_sal h9.2.1⟩) (fun E u h9 => ⟨h9.1.1, h9.1.2, h9.2.1⟩)) (kt_SH uv_141 uv_142 uv_13 uv_143) (by decide +kernel) ⟨Nat.le_of_ble_eq_true rfl, Nat.le_of_ble_eq_true rfl⟩ rfl hl.1 (by simp [Value.category]) dL_law__1026 (fun v9 u H locs h9 C => ?_)
  obtain ⟨r1, ev, Z', Y'⟩ := h9
  subst ev
  refine lv_istore (lv' := [(5, .int r1), (4, .int i), (3, .ref o), (2, .ref (M.1 0)), (1, .ref x), (0, .ref b)]) F.1 F.2.1 dL_law__1029 hl (by decide) rfl (fun ls hl => ?_)
  refine lv_aload_n F.1 F.2.1 dL_law__1031 rfl (lv_at hl 3 rfl) ?_
  refine lv_aload_n F.1 F.2.1 dL_law__1032 rfl (lv_at hl 5 rfl) ?_
  refine lv_iload F.1 F.2.1 dL_law__1033 (lv_at hl 1 rfl) ?_
  refine lv_iconst (v := 1) F.1 F.2.1 dL_law__1035 (by decide) ?_
  refine lv_iadd F.1 F.2.1 dL_law__1036 ?_
  refine va_sld F.1 F.2.1 hX hbl hbA C.1 (hv 1 (by decide) (by decide)) dL_law__1037 ?_
  refine lv_aload_n F.1 F.2.1 dL_law__1038 rfl (lv_at hl 5 rfl) ?_
  refine lv_iload F.1 F.2.1 dL_law__1039 (lv_at hl 1 rfl) ?_
  refine lv_iconst (v := 2) F.1 F.2.1 dL_law__1041 (by decide) ?_
  refine lv_iadd F.1 F.2.1 dL_law__1042 ?_
  refine va_sld F.1 F.2.1 hX hbl hbA C.1 (hv 2 (by decide) (by decide)) dL_law__1043 ?_
  refine lx_mVi (As := [.int (xs (i + 1).toNatClampNeg), .int (xs (i + 2).toNatClampNeg)]) (n := 2) F C (hc_X12_water l M (xs (i + 1).toNatClampNeg) (xs (i + 2).toNatClampNeg) μ _ (lm_water I K VR)) (kt_V uv_144 uv_145 uv_146 uv_9 uv_147) (by decide +kernel) ⟨Nat.le_of_ble_eq_true rfl, Nat.le_of_ble_eq_true rfl⟩ rfl hl.1 (by simp [Value.category]) dL_law__1044 (fun r2 μ' H locs hm C => ?_)
  obtain ⟨hm, T', et0, eb0⟩ := hm
  have I' := hm.1
  have es : sm_ μ' = sm_ μ := hm.2
  have V' : LV_ x u μ' := ⟨A, by rw [es]; exact K, by rw [es]; exact Y', T'⟩
  rw [← hm.2] at Z'
  refine lv_istore (lv' := [(6, .int r2), (5, .int r1), (4, .int i), (3, .ref o), (2, .ref (M.1 0)), (1, .ref x), (0, .ref b)]) F.1 F.2.1 dL_law__1047 hl (by decide) rfl (fun ls hl => ?_)
  refine lv_goto (tgt := 1164) F.1 F.2.1 dL_law__1049 (by decide) ?_
  exact kk _ _ _ _ _ C Z' I' V' (lv_sub hl [2, 3, 4, 5, 6] rfl)
set_option maxRecDepth 100000 in
set_option maxHeartbeats 4000000 in
theorem lc_waters (hlt : l.stackTraces = false) (F : CallFix p m c cL_law_ 8 s #[Value.ref b] kt_ RL) (hX : va_X b L xs s s.heap) (hbl : b < s.heap.size) (hbA : ¬ lx_A s b) (C : lx_C G M s H locs σ μ) (Z : yZ_ k (sm_ μ) x o σ) (I : im_ μ) (V : LV_ x σ μ) (hk : k < 600) (hv : ∀ j : Int32, 0 ≤ j.toInt → j.toInt ≤ 5 → vp_in (i + j) L) (hl : lv_has ls 8 [(4, .int i), (3, .ref o), (2, .ref (M.1 0)), (1, .ref x), (0, .ref b)])
    (kk : ∀ (ls : Array Slot) (σ' : kx_S) (μ' : km_S) (H : Heap) (locs : List Loc), lx_C G M s H locs σ' μ' → yZ_ (k + 1) (sm_ μ') x o σ' → im_ μ' → LV_ x σ' μ' → lv_has ls 8 [(4, .int i), (3, .ref o), (2, .ref (M.1 0)), (1, .ref x), (0, .ref b)] → lx_W p l e s m #[Value.ref b] below meth c H locs σ' Q (F0 m 1164 ls [])) : lx_W p l e s m #[Value.ref b] below meth c H locs σ Q (F0 m 1052 ls []) := by
  obtain ⟨A, K, VC, VR⟩ := V
  refine lv_aload_n F.1 F.2.1 dL_law__1052 rfl (lv_at hl 3 rfl) ?_
  refine lv_aload_n F.1 F.2.1 dL_law__1053 rfl (lv_at hl 4 rfl) ?_
  refine lv_iload F.1 F.2.1 dL_law__1054 (lv_at hl 0 rfl) ?_
  refine lv_iconst (v := 1) F.1 F.2.1 dL_law__1056 (by decide) ?_
  refine lv_iadd F.1 F.2.1 dL_law__1057 ?_
  refine va_sld F.1 F.2.1 hX hbl hbA C.1 (hv 1 (by decide) (by decide)) dL_law__1058 ?_
  refine lv_aload_n F.1 F.2.1 dL_law__1059 rfl (lv_at hl 1 rfl) ?_
  refine lx_cS (As := [.ref x, .int (xs (i + 1).toNatClampNeg), .ref o]) (n := 3) F C (hw_waters l hlt G x (xs (i + 1).toNatClampNeg) o σ _ _ (fun _ u => yZ_ (k + 1) (sm_ μ) x o u ∧ fC_ (sm_ μ).1 A x u) (yZ_x Z) (lf_waters hk Z I K VC VR) (fun r u h9 => ⟨(yZ_out h9.1).1, (yZ_out h9.1).2 _, fC_sal h9.2.1⟩) (fun E u h9 => ⟨h9.1.1, h9.1.2, h9.2.1⟩)) (kt_SH uv_148 uv_149 uv_13 uv_150) (by decide +kernel) ⟨Nat.le_of_ble_eq_true rfl, Nat.le_of_ble_eq_true rfl⟩ rfl hl.1 (by simp [Value.category]) dL_law__1060 (fun v9 u H locs h9 C => ?_)
  obtain ⟨r1, ev, Z', Y'⟩ := h9
  subst ev
  refine lv_istore (lv' := [(5, .int r1), (4, .int i), (3, .ref o), (2, .ref (M.1 0)), (1, .ref x), (0, .ref b)]) F.1 F.2.1 dL_law__1063 hl (by decide) rfl (fun ls hl => ?_)
  refine lv_aload_n F.1 F.2.1 dL_law__1065 rfl (lv_at hl 3 rfl) ?_
  refine lv_aload_n F.1 F.2.1 dL_law__1066 rfl (lv_at hl 5 rfl) ?_
  refine lv_iload F.1 F.2.1 dL_law__1067 (lv_at hl 1 rfl) ?_
  refine lv_iconst (v := 1) F.1 F.2.1 dL_law__1069 (by decide) ?_
  refine lv_iadd F.1 F.2.1 dL_law__1070 ?_
  refine va_sld F.1 F.2.1 hX hbl hbA C.1 (hv 1 (by decide) (by decide)) dL_law__1071 ?_
  refine lx_mVl (As := [.int (xs (i + 1).toNatClampNeg)]) (n := 1) F C (hc_X12_waters l M (xs (i + 1).toNatClampNeg) μ _ (lm_waters I K VR)) (kt_V uv_151 uv_152 uv_153 uv_9 uv_154) (by decide +kernel) ⟨Nat.le_of_ble_eq_true rfl, Nat.le_of_ble_eq_true rfl⟩ rfl hl.1 (by simp [Value.category]) dL_law__1072 (fun r2 μ' H locs hm C => ?_)
  obtain ⟨hm, T', et0, eb0⟩ := hm
  have I' := hm.1
  have es : sm_ μ' = sm_ μ := hm.2
  have V' : LV_ x u μ' := ⟨A, by rw [es]; exact K, by rw [es]; exact Y', T'⟩
  rw [← hm.2] at Z'
  refine lv_lstore (lv' := [(6, .long r2), (5, .int r1), (4, .int i), (3, .ref o), (2, .ref (M.1 0)), (1, .ref x), (0, .ref b)]) F.1 F.2.1 dL_law__1075 hl (by decide) rfl (fun ls hl => ?_)
  refine lv_goto (tgt := 1164) F.1 F.2.1 dL_law__1077 (by decide) ?_
  exact kk _ _ _ _ _ C Z' I' V' (lv_sub hl [2, 3, 4, 5, 6] rfl)
set_option maxRecDepth 100000 in
set_option maxHeartbeats 4000000 in
theorem lc_board (hlt : l.stackTraces = false) (F : CallFix p m c cL_law_ 8 s #[Value.ref b] kt_ RL) (hX : va_X b L xs s s.heap) (hbl : b < s.heap.size) (hbA : ¬ lx_A s b) (C : lx_C G M s H locs σ μ) (Z : yZ_ k (sm_ μ) x o σ) (I : im_ μ) (V : LV_ x σ μ) (hk : k < 600) (hv : ∀ j : Int32, 0 ≤ j.toInt → j.toInt ≤ 5 → vp_in (i + j) L) (hl : lv_has ls 8 [(4, .int i), (3, .ref o), (2, .ref (M.1 0)), (1, .ref x), (0, .ref b)])
    (kk : ∀ (ls : Array Slot) (σ' : kx_S) (μ' : km_S) (H : Heap) (locs : List Loc), lx_C G M s H locs σ' μ' → yZ_ (k + 1) (sm_ μ') x o σ' → im_ μ' → LV_ x σ' μ' → lv_has ls 8 [(4, .int i), (3, .ref o), (2, .ref (M.1 0)), (1, .ref x), (0, .ref b)] → lx_W p l e s m #[Value.ref b] below meth c H locs σ' Q (F0 m 1164 ls [])) : lx_W p l e s m #[Value.ref b] below meth c H locs σ Q (F0 m 1080 ls []) := by
  obtain ⟨A, K, VC, VR⟩ := V
  refine lv_aload_n F.1 F.2.1 dL_law__1080 rfl (lv_at hl 3 rfl) ?_
  refine lv_aload_n F.1 F.2.1 dL_law__1081 rfl (lv_at hl 4 rfl) ?_
  refine lv_iload F.1 F.2.1 dL_law__1082 (lv_at hl 0 rfl) ?_
  refine lv_iconst (v := 1) F.1 F.2.1 dL_law__1084 (by decide) ?_
  refine lv_iadd F.1 F.2.1 dL_law__1085 ?_
  refine va_sld F.1 F.2.1 hX hbl hbA C.1 (hv 1 (by decide) (by decide)) dL_law__1086 ?_
  refine lv_aload_n F.1 F.2.1 dL_law__1087 rfl (lv_at hl 1 rfl) ?_
  refine lx_cS (As := [.ref x, .int (xs (i + 1).toNatClampNeg), .ref o]) (n := 3) F C (hw_board l hlt G x (xs (i + 1).toNatClampNeg) o σ _ _ (fun _ u => yZ_ (k + 1) (sm_ μ) x o u ∧ fC_ (sm_ μ).1 A x u) (yZ_x Z) (lf_board hk Z I K VC VR) (fun r u h9 => ⟨(yZ_out h9.1).1, (yZ_out h9.1).2 _, fC_sal h9.2.1⟩) (fun E u h9 => ⟨h9.1.1, h9.1.2, h9.2.1⟩)) (kt_SH uv_155 uv_156 uv_13 uv_157) (by decide +kernel) ⟨Nat.le_of_ble_eq_true rfl, Nat.le_of_ble_eq_true rfl⟩ rfl hl.1 (by simp [Value.category]) dL_law__1088 (fun v9 u H locs h9 C => ?_)
  obtain ⟨r1, ev, Z', Y'⟩ := h9
  subst ev
  refine lv_istore (lv' := [(5, .int r1), (4, .int i), (3, .ref o), (2, .ref (M.1 0)), (1, .ref x), (0, .ref b)]) F.1 F.2.1 dL_law__1091 hl (by decide) rfl (fun ls hl => ?_)
  refine lv_aload_n F.1 F.2.1 dL_law__1093 rfl (lv_at hl 3 rfl) ?_
  refine lv_aload_n F.1 F.2.1 dL_law__1094 rfl (lv_at hl 5 rfl) ?_
  refine lv_iload F.1 F.2.1 dL_law__1095 (lv_at hl 1 rfl) ?_
  refine lv_iconst (v := 1) F.1 F.2.1 dL_law__1097 (by decide) ?_
  refine lv_iadd F.1 F.2.1 dL_law__1098 ?_
  refine va_sld F.1 F.2.1 hX hbl hbA C.1 (hv 1 (by decide) (by decide)) dL_law__1099 ?_
  refine lx_mVi (As := [.int (xs (i + 1).toNatClampNeg)]) (n := 1) F C (hc_X12_board l M (xs (i + 1).toNatClampNeg) μ _ (lm_board I K VR)) (kt_V uv_158 uv_159 uv_160 uv_9 uv_161) (by decide +kernel) ⟨Nat.le_of_ble_eq_true rfl, Nat.le_of_ble_eq_true rfl⟩ rfl hl.1 (by simp [Value.category]) dL_law__1100 (fun r2 μ' H locs hm C => ?_)
  obtain ⟨hm, T', et0, eb0⟩ := hm
  have I' := hm.1
  have es : sm_ μ' = sm_ μ := hm.2
  have V' : LV_ x u μ' := ⟨A, by rw [es]; exact K, by rw [es]; exact Y', T'⟩
  rw [← hm.2] at Z'
  refine lv_istore (lv' := [(6, .int r2), (5, .int r1), (4, .int i), (3, .ref o), (2, .ref (M.1 0)), (1, .ref x), (0, .ref b)]) F.1 F.2.1 dL_law__1103 hl (by decide) rfl (fun ls hl => ?_)
  refine lv_goto (tgt := 1164) F.1 F.2.1 dL_law__1105 (by decide) ?_
  exact kk _ _ _ _ _ C Z' I' V' (lv_sub hl [2, 3, 4, 5, 6] rfl)
set_option maxRecDepth 100000 in
set_option maxHeartbeats 4000000 in
theorem lc_paid (hlt : l.stackTraces = false) (F : CallFix p m c cL_law_ 8 s #[Value.ref b] kt_ RL) (hX : va_X b L xs s s.heap) (hbl : b < s.heap.size) (hbA : ¬ lx_A s b) (C : lx_C G M s H locs σ μ) (Z : yZ_ k (sm_ μ) x o σ) (I : im_ μ) (V : LV_ x σ μ) (hk : k < 600) (hv : ∀ j : Int32, 0 ≤ j.toInt → j.toInt ≤ 5 → vp_in (i + j) L) (hl : lv_has ls 8 [(4, .int i), (3, .ref o), (2, .ref (M.1 0)), (1, .ref x), (0, .ref b)])
    (kk : ∀ (ls : Array Slot) (σ' : kx_S) (μ' : km_S) (H : Heap) (locs : List Loc), lx_C G M s H locs σ' μ' → yZ_ (k + 1) (sm_ μ') x o σ' → im_ μ' → LV_ x σ' μ' → lv_has ls 8 [(4, .int i), (3, .ref o), (2, .ref (M.1 0)), (1, .ref x), (0, .ref b)] → lx_W p l e s m #[Value.ref b] below meth c H locs σ' Q (F0 m 1164 ls [])) : lx_W p l e s m #[Value.ref b] below meth c H locs σ Q (F0 m 1108 ls []) := by
  obtain ⟨A, K, VC, VR⟩ := V
  refine lv_aload_n F.1 F.2.1 dL_law__1108 rfl (lv_at hl 3 rfl) ?_
  refine lv_aload_n F.1 F.2.1 dL_law__1109 rfl (lv_at hl 4 rfl) ?_
  refine lv_iload F.1 F.2.1 dL_law__1110 (lv_at hl 0 rfl) ?_
  refine lv_iconst (v := 1) F.1 F.2.1 dL_law__1112 (by decide) ?_
  refine lv_iadd F.1 F.2.1 dL_law__1113 ?_
  refine va_sld F.1 F.2.1 hX hbl hbA C.1 (hv 1 (by decide) (by decide)) dL_law__1114 ?_
  refine lv_aload_n F.1 F.2.1 dL_law__1115 rfl (lv_at hl 1 rfl) ?_
  refine lx_cS (As := [.ref x, .int (xs (i + 1).toNatClampNeg), .ref o]) (n := 3) F C (hw_paid l hlt G x (xs (i + 1).toNatClampNeg) o σ _ _ (fun _ u => yZ_ (k + 1) (sm_ μ) x o u ∧ fC_ (sm_ μ).1 A x u) (yZ_x Z) (lf_paid hk Z I K VC VR) (fun r u h9 => ⟨(yZ_out h9.1).1, (yZ_out h9.1).2 _, fC_sal h9.2⟩) (fun E u h9 => ⟨h9.1.1, h9.1.2, h9.2⟩)) (kt_SH uv_162 uv_163 uv_13 uv_164) (by decide +kernel) ⟨Nat.le_of_ble_eq_true rfl, Nat.le_of_ble_eq_true rfl⟩ rfl hl.1 (by simp [Value.category]) dL_law__1116 (fun v9 u H locs h9 C => ?_)
  obtain ⟨r1, ev, Z', Y'⟩ := h9
  subst ev
  refine lv_istore (lv' := [(5, .int r1), (4, .int i), (3, .ref o), (2, .ref (M.1 0)), (1, .ref x), (0, .ref b)]) F.1 F.2.1 dL_law__1119 hl (by decide) rfl (fun ls hl => ?_)
  refine lv_aload_n F.1 F.2.1 dL_law__1121 rfl (lv_at hl 3 rfl) ?_
  refine lv_aload_n F.1 F.2.1 dL_law__1122 rfl (lv_at hl 5 rfl) ?_
  refine lv_iload F.1 F.2.1 dL_law__1123 (lv_at hl 1 rfl) ?_
  refine lv_iconst (v := 1) F.1 F.2.1 dL_law__1125 (by decide) ?_
  refine lv_iadd F.1 F.2.1 dL_law__1126 ?_
  refine va_sld F.1 F.2.1 hX hbl hbA C.1 (hv 1 (by decide) (by decide)) dL_law__1127 ?_
  refine lx_mVl (As := [.int (xs (i + 1).toNatClampNeg)]) (n := 1) F C (hc_X12_paid l M (xs (i + 1).toNatClampNeg) μ _ (lm_paid I K VR)) (kt_V uv_165 uv_166 uv_167 uv_9 uv_168) (by decide +kernel) ⟨Nat.le_of_ble_eq_true rfl, Nat.le_of_ble_eq_true rfl⟩ rfl hl.1 (by simp [Value.category]) dL_law__1128 (fun r2 μ' H locs hm C => ?_)
  obtain ⟨hm, T'⟩ := hm
  have I' := hm.1
  have es : sm_ μ' = sm_ μ := hm.2
  have V' : LV_ x u μ' := ⟨A, by rw [es]; exact K, by rw [es]; exact Y', T'⟩
  rw [← hm.2] at Z'
  refine lv_lstore (lv' := [(6, .long r2), (5, .int r1), (4, .int i), (3, .ref o), (2, .ref (M.1 0)), (1, .ref x), (0, .ref b)]) F.1 F.2.1 dL_law__1131 hl (by decide) rfl (fun ls hl => ?_)
  refine lv_goto (tgt := 1164) F.1 F.2.1 dL_law__1133 (by decide) ?_
  exact kk _ _ _ _ _ C Z' I' V' (lv_sub hl [2, 3, 4, 5, 6] rfl)
set_option maxRecDepth 100000 in
set_option maxHeartbeats 4000000 in
theorem lc_count (hlt : l.stackTraces = false) (F : CallFix p m c cL_law_ 8 s #[Value.ref b] kt_ RL) (hX : va_X b L xs s s.heap) (hbl : b < s.heap.size) (hbA : ¬ lx_A s b) (C : lx_C G M s H locs σ μ) (Z : yZ_ k (sm_ μ) x o σ) (I : im_ μ) (V : LV_ x σ μ) (hk : k < 600) (hv : ∀ j : Int32, 0 ≤ j.toInt → j.toInt ≤ 5 → vp_in (i + j) L) (hl : lv_has ls 8 [(4, .int i), (3, .ref o), (2, .ref (M.1 0)), (1, .ref x), (0, .ref b)])
    (kk : ∀ (ls : Array Slot) (σ' : kx_S) (μ' : km_S) (H : Heap) (locs : List Loc), lx_C G M s H locs σ' μ' → yZ_ (k + 1) (sm_ μ') x o σ' → im_ μ' → LV_ x σ' μ' → lv_has ls 8 [(4, .int i), (3, .ref o), (2, .ref (M.1 0)), (1, .ref x), (0, .ref b)] → lx_W p l e s m #[Value.ref b] below meth c H locs σ' Q (F0 m 1164 ls [])) : lx_W p l e s m #[Value.ref b] below meth c H locs σ Q (F0 m 1136 ls []) := by
  obtain ⟨A, K, VC, VR⟩ := V
  refine lv_aload_n F.1 F.2.1 dL_law__1136 rfl (lv_at hl 3 rfl) ?_
  refine lv_aload_n F.1 F.2.1 dL_law__1137 rfl (lv_at hl 4 rfl) ?_
  refine lv_iload F.1 F.2.1 dL_law__1138 (lv_at hl 0 rfl) ?_
  refine lv_iconst (v := 1) F.1 F.2.1 dL_law__1140 (by decide) ?_
  refine lv_iadd F.1 F.2.1 dL_law__1141 ?_
  refine va_sld F.1 F.2.1 hX hbl hbA C.1 (hv 1 (by decide) (by decide)) dL_law__1142 ?_
  refine lv_aload_n F.1 F.2.1 dL_law__1143 rfl (lv_at hl 1 rfl) ?_
  refine lx_cS (As := [.ref x, .int (xs (i + 1).toNatClampNeg), .ref o]) (n := 3) F C (hw_count l hlt G x (xs (i + 1).toNatClampNeg) o σ _ _ (fun _ u => yZ_ (k + 1) (sm_ μ) x o u ∧ fC_ (sm_ μ).1 A x u) (yZ_x Z) (lf_count hk Z I K VC VR) (fun r u h9 => ⟨(yZ_out h9.1).1, (yZ_out h9.1).2 _, fC_sal h9.2.1⟩) (fun E u h9 => ⟨h9.1.1, h9.1.2, h9.2.1⟩)) (kt_SH uv_169 uv_170 uv_13 uv_171) (by decide +kernel) ⟨Nat.le_of_ble_eq_true rfl, Nat.le_of_ble_eq_true rfl⟩ rfl hl.1 (by simp [Value.category]) dL_law__1144 (fun v9 u H locs h9 C => ?_)
  obtain ⟨r1, ev, Z', Y'⟩ := h9
  subst ev
  refine lv_istore (lv' := [(5, .int r1), (4, .int i), (3, .ref o), (2, .ref (M.1 0)), (1, .ref x), (0, .ref b)]) F.1 F.2.1 dL_law__1147 hl (by decide) rfl (fun ls hl => ?_)
  refine lv_aload_n F.1 F.2.1 dL_law__1149 rfl (lv_at hl 3 rfl) ?_
  refine lv_aload_n F.1 F.2.1 dL_law__1150 rfl (lv_at hl 5 rfl) ?_
  refine lv_iload F.1 F.2.1 dL_law__1151 (lv_at hl 1 rfl) ?_
  refine lv_iconst (v := 1) F.1 F.2.1 dL_law__1153 (by decide) ?_
  refine lv_iadd F.1 F.2.1 dL_law__1154 ?_
  refine va_sld F.1 F.2.1 hX hbl hbA C.1 (hv 1 (by decide) (by decide)) dL_law__1155 ?_
  refine lx_mVi (As := [.int (xs (i + 1).toNatClampNeg)]) (n := 1) F C (hc_X12_count l M (xs (i + 1).toNatClampNeg) μ _ (lm_count I K VR)) (kt_V uv_172 uv_173 uv_174 uv_9 uv_175) (by decide +kernel) ⟨Nat.le_of_ble_eq_true rfl, Nat.le_of_ble_eq_true rfl⟩ rfl hl.1 (by simp [Value.category]) dL_law__1156 (fun r2 μ' H locs hm C => ?_)
  obtain ⟨hm, T', et0, eb0⟩ := hm
  have I' := hm.1
  have es : sm_ μ' = sm_ μ := hm.2
  have V' : LV_ x u μ' := ⟨A, by rw [es]; exact K, by rw [es]; exact Y', T'⟩
  rw [← hm.2] at Z'
  refine lv_istore (lv' := [(6, .int r2), (5, .int r1), (4, .int i), (3, .ref o), (2, .ref (M.1 0)), (1, .ref x), (0, .ref b)]) F.1 F.2.1 dL_law__1159 hl (by decide) rfl (fun ls hl => ?_)
  refine lv_goto (tgt := 1164) F.1 F.2.1 dL_law__1161 (by decide) ?_
  exact kk _ _ _ _ _ C Z' I' V' (lv_sub hl [2, 3, 4, 5, 6] rfl)
end

theorem dX12_step_0 : decode cX12_step 0 = .ok (.aload_n 0, 1) := by decide +kernel
theorem dX12_step_1 : decode cX12_step 1 = .ok (.aload_n 0, 1) := by decide +kernel
theorem dX12_step_2 : decode cX12_step 2 = .ok (.getfield 201, 3) := by decide +kernel
theorem dX12_step_5 : decode cX12_step 5 = .ok (.invokevirtual 204, 3) := by decide +kernel
theorem dX12_step_8 : decode cX12_step 8 = .ok (.bipush 32, 2) := by decide +kernel
theorem dX12_step_10 : decode cX12_step 10 = .ok (.if_icmp .eq 16, 3) := by decide +kernel
theorem dX12_step_13 : decode cX12_step 13 = .ok (.aload_n 0, 1) := by decide +kernel
theorem dX12_step_14 : decode cX12_step 14 = .ok (.aload_n 0, 1) := by decide +kernel
theorem dX12_step_15 : decode cX12_step 15 = .ok (.getfield 201, 3) := by decide +kernel
theorem dX12_step_18 : decode cX12_step 18 = .ok (.invokevirtual 204, 3) := by decide +kernel
theorem dX12_step_21 : decode cX12_step 21 = .ok (.bipush 10, 2) := by decide +kernel
theorem dX12_step_23 : decode cX12_step 23 = .ok (.if_icmp .ne 16, 3) := by decide +kernel
theorem dX12_step_26 : decode cX12_step 26 = .ok (.aload_n 0, 1) := by decide +kernel
theorem dX12_step_27 : decode cX12_step 27 = .ok (.dup, 1) := by decide +kernel
theorem dX12_step_28 : decode cX12_step 28 = .ok (.getfield 201, 3) := by decide +kernel
theorem dX12_step_31 : decode cX12_step 31 = .ok (.iconst 1, 1) := by decide +kernel
theorem dX12_step_32 : decode cX12_step 32 = .ok (.iadd, 1) := by decide +kernel
theorem dX12_step_33 : decode cX12_step 33 = .ok (.putfield 201, 3) := by decide +kernel
theorem dX12_step_36 : decode cX12_step 36 = .ok (.goto (-36), 3) := by decide +kernel
theorem dX12_step_39 : decode cX12_step 39 = .ok (.aload_n 0, 1) := by decide +kernel
theorem dX12_step_40 : decode cX12_step 40 = .ok (.aload_n 0, 1) := by decide +kernel
theorem dX12_step_41 : decode cX12_step 41 = .ok (.getfield 201, 3) := by decide +kernel
theorem dX12_step_44 : decode cX12_step 44 = .ok (.putfield 208, 3) := by decide +kernel
theorem dX12_step_47 : decode cX12_step 47 = .ok (.aload_n 0, 1) := by decide +kernel
theorem dX12_step_48 : decode cX12_step 48 = .ok (.iconst 0, 1) := by decide +kernel
theorem dX12_step_49 : decode cX12_step 49 = .ok (.putfield 211, 3) := by decide +kernel
theorem dX12_step_52 : decode cX12_step 52 = .ok (.aload_n 0, 1) := by decide +kernel
theorem dX12_step_53 : decode cX12_step 53 = .ok (.aload_n 0, 1) := by decide +kernel
theorem dX12_step_54 : decode cX12_step 54 = .ok (.getfield 201, 3) := by decide +kernel
theorem dX12_step_57 : decode cX12_step 57 = .ok (.invokevirtual 204, 3) := by decide +kernel
theorem dX12_step_60 : decode cX12_step 60 = .ok (.istore_n 1, 1) := by decide +kernel
theorem dX12_step_61 : decode cX12_step 61 = .ok (.iload_n 1, 1) := by decide +kernel
theorem dX12_step_62 : decode cX12_step 62 = .ok (.iconst (-1), 1) := by decide +kernel
theorem dX12_step_63 : decode cX12_step 63 = .ok (.if_icmp .ne 11, 3) := by decide +kernel
theorem dX12_step_66 : decode cX12_step 66 = .ok (.aload_n 0, 1) := by decide +kernel
theorem dX12_step_67 : decode cX12_step 67 = .ok (.iconst 0, 1) := by decide +kernel
theorem dX12_step_68 : decode cX12_step 68 = .ok (.putfield 214, 3) := by decide +kernel
theorem dX12_step_71 : decode cX12_step 71 = .ok (.goto 175, 3) := by decide +kernel
theorem dX12_step_74 : decode cX12_step 74 = .ok (.iload_n 1, 1) := by decide +kernel
theorem dX12_step_75 : decode cX12_step 75 = .ok (.invokestatic 217, 3) := by decide +kernel
theorem dX12_step_78 : decode cX12_step 78 = .ok (.ifCond .eq 38, 3) := by decide +kernel
theorem dX12_step_81 : decode cX12_step 81 = .ok (.aload_n 0, 1) := by decide +kernel
theorem dX12_step_82 : decode cX12_step 82 = .ok (.aload_n 0, 1) := by decide +kernel
theorem dX12_step_83 : decode cX12_step 83 = .ok (.getfield 201, 3) := by decide +kernel
theorem dX12_step_86 : decode cX12_step 86 = .ok (.invokevirtual 204, 3) := by decide +kernel
theorem dX12_step_89 : decode cX12_step 89 = .ok (.invokestatic 217, 3) := by decide +kernel
theorem dX12_step_92 : decode cX12_step 92 = .ok (.ifCond .eq 16, 3) := by decide +kernel
theorem dX12_step_95 : decode cX12_step 95 = .ok (.aload_n 0, 1) := by decide +kernel
theorem dX12_step_96 : decode cX12_step 96 = .ok (.dup, 1) := by decide +kernel
theorem dX12_step_97 : decode cX12_step 97 = .ok (.getfield 201, 3) := by decide +kernel
theorem dX12_step_100 : decode cX12_step 100 = .ok (.iconst 1, 1) := by decide +kernel
theorem dX12_step_101 : decode cX12_step 101 = .ok (.iadd, 1) := by decide +kernel
theorem dX12_step_102 : decode cX12_step 102 = .ok (.putfield 201, 3) := by decide +kernel
theorem dX12_step_105 : decode cX12_step 105 = .ok (.goto (-24), 3) := by decide +kernel
theorem dX12_step_108 : decode cX12_step 108 = .ok (.aload_n 0, 1) := by decide +kernel
theorem dX12_step_109 : decode cX12_step 109 = .ok (.iconst 1, 1) := by decide +kernel
theorem dX12_step_110 : decode cX12_step 110 = .ok (.putfield 214, 3) := by decide +kernel
theorem dX12_step_113 : decode cX12_step 113 = .ok (.goto 133, 3) := by decide +kernel
theorem dX12_step_116 : decode cX12_step 116 = .ok (.iload_n 1, 1) := by decide +kernel
theorem dX12_step_117 : decode cX12_step 117 = .ok (.invokestatic 220, 3) := by decide +kernel
theorem dX12_step_120 : decode cX12_step 120 = .ok (.ifCond .eq 38, 3) := by decide +kernel
theorem dX12_step_123 : decode cX12_step 123 = .ok (.aload_n 0, 1) := by decide +kernel
theorem dX12_step_124 : decode cX12_step 124 = .ok (.aload_n 0, 1) := by decide +kernel
theorem dX12_step_125 : decode cX12_step 125 = .ok (.getfield 201, 3) := by decide +kernel
theorem dX12_step_128 : decode cX12_step 128 = .ok (.invokevirtual 204, 3) := by decide +kernel
theorem dX12_step_131 : decode cX12_step 131 = .ok (.invokestatic 220, 3) := by decide +kernel
theorem dX12_step_134 : decode cX12_step 134 = .ok (.ifCond .eq 16, 3) := by decide +kernel
theorem dX12_step_137 : decode cX12_step 137 = .ok (.aload_n 0, 1) := by decide +kernel
theorem dX12_step_138 : decode cX12_step 138 = .ok (.dup, 1) := by decide +kernel
theorem dX12_step_139 : decode cX12_step 139 = .ok (.getfield 201, 3) := by decide +kernel
theorem dX12_step_142 : decode cX12_step 142 = .ok (.iconst 1, 1) := by decide +kernel
theorem dX12_step_143 : decode cX12_step 143 = .ok (.iadd, 1) := by decide +kernel
theorem dX12_step_144 : decode cX12_step 144 = .ok (.putfield 201, 3) := by decide +kernel
theorem dX12_step_147 : decode cX12_step 147 = .ok (.goto (-24), 3) := by decide +kernel
theorem dX12_step_150 : decode cX12_step 150 = .ok (.aload_n 0, 1) := by decide +kernel
theorem dX12_step_151 : decode cX12_step 151 = .ok (.iconst 2, 1) := by decide +kernel
theorem dX12_step_152 : decode cX12_step 152 = .ok (.putfield 214, 3) := by decide +kernel
theorem dX12_step_155 : decode cX12_step 155 = .ok (.goto 91, 3) := by decide +kernel
theorem dX12_step_158 : decode cX12_step 158 = .ok (.aload_n 0, 1) := by decide +kernel
theorem dX12_step_159 : decode cX12_step 159 = .ok (.dup, 1) := by decide +kernel
theorem dX12_step_160 : decode cX12_step 160 = .ok (.getfield 201, 3) := by decide +kernel
theorem dX12_step_163 : decode cX12_step 163 = .ok (.iconst 1, 1) := by decide +kernel
theorem dX12_step_164 : decode cX12_step 164 = .ok (.iadd, 1) := by decide +kernel
theorem dX12_step_165 : decode cX12_step 165 = .ok (.putfield 201, 3) := by decide +kernel
theorem dX12_step_168 : decode cX12_step 168 = .ok (.iload_n 1, 1) := by decide +kernel
theorem dX12_step_169 : decode cX12_step 169 = .ok (.bipush 40, 2) := by decide +kernel
theorem dX12_step_171 : decode cX12_step 171 = .ok (.if_icmp .eq 51, 3) := by decide +kernel
theorem dX12_step_174 : decode cX12_step 174 = .ok (.iload_n 1, 1) := by decide +kernel
theorem dX12_step_175 : decode cX12_step 175 = .ok (.bipush 41, 2) := by decide +kernel
theorem dX12_step_177 : decode cX12_step 177 = .ok (.if_icmp .eq 45, 3) := by decide +kernel
theorem dX12_step_180 : decode cX12_step 180 = .ok (.iload_n 1, 1) := by decide +kernel
theorem dX12_step_181 : decode cX12_step 181 = .ok (.bipush 59, 2) := by decide +kernel
theorem dX12_step_183 : decode cX12_step 183 = .ok (.if_icmp .eq 39, 3) := by decide +kernel
theorem dX12_step_186 : decode cX12_step 186 = .ok (.iload_n 1, 1) := by decide +kernel
theorem dX12_step_187 : decode cX12_step 187 = .ok (.bipush 43, 2) := by decide +kernel
theorem dX12_step_189 : decode cX12_step 189 = .ok (.if_icmp .eq 33, 3) := by decide +kernel
theorem dX12_step_192 : decode cX12_step 192 = .ok (.iload_n 1, 1) := by decide +kernel
theorem dX12_step_193 : decode cX12_step 193 = .ok (.bipush 45, 2) := by decide +kernel
theorem dX12_step_195 : decode cX12_step 195 = .ok (.if_icmp .eq 27, 3) := by decide +kernel
theorem dX12_step_198 : decode cX12_step 198 = .ok (.iload_n 1, 1) := by decide +kernel
theorem dX12_step_199 : decode cX12_step 199 = .ok (.bipush 42, 2) := by decide +kernel
theorem dX12_step_201 : decode cX12_step 201 = .ok (.if_icmp .eq 21, 3) := by decide +kernel
theorem dX12_step_204 : decode cX12_step 204 = .ok (.iload_n 1, 1) := by decide +kernel
theorem dX12_step_205 : decode cX12_step 205 = .ok (.bipush 47, 2) := by decide +kernel
theorem dX12_step_207 : decode cX12_step 207 = .ok (.if_icmp .eq 15, 3) := by decide +kernel
theorem dX12_step_210 : decode cX12_step 210 = .ok (.iload_n 1, 1) := by decide +kernel
theorem dX12_step_211 : decode cX12_step 211 = .ok (.bipush 60, 2) := by decide +kernel
theorem dX12_step_213 : decode cX12_step 213 = .ok (.if_icmp .eq 9, 3) := by decide +kernel
theorem dX12_step_216 : decode cX12_step 216 = .ok (.iload_n 1, 1) := by decide +kernel
theorem dX12_step_217 : decode cX12_step 217 = .ok (.bipush 61, 2) := by decide +kernel
theorem dX12_step_219 : decode cX12_step 219 = .ok (.if_icmp .ne 7, 3) := by decide +kernel
theorem dX12_step_222 : decode cX12_step 222 = .ok (.iconst 1, 1) := by decide +kernel
theorem dX12_step_223 : decode cX12_step 223 = .ok (.goto 4, 3) := by decide +kernel
theorem dX12_step_226 : decode cX12_step 226 = .ok (.iconst 0, 1) := by decide +kernel
theorem dX12_step_227 : decode cX12_step 227 = .ok (.istore_n 2, 1) := by decide +kernel
theorem dX12_step_228 : decode cX12_step 228 = .ok (.aload_n 0, 1) := by decide +kernel
theorem dX12_step_229 : decode cX12_step 229 = .ok (.iload_n 2, 1) := by decide +kernel
theorem dX12_step_230 : decode cX12_step 230 = .ok (.ifCond .eq 7, 3) := by decide +kernel
theorem dX12_step_233 : decode cX12_step 233 = .ok (.iconst 3, 1) := by decide +kernel
theorem dX12_step_234 : decode cX12_step 234 = .ok (.goto 4, 3) := by decide +kernel
theorem dX12_step_237 : decode cX12_step 237 = .ok (.iconst 4, 1) := by decide +kernel
theorem dX12_step_238 : decode cX12_step 238 = .ok (.putfield 214, 3) := by decide +kernel
theorem dX12_step_241 : decode cX12_step 241 = .ok (.aload_n 0, 1) := by decide +kernel
theorem dX12_step_242 : decode cX12_step 242 = .ok (.iload_n 1, 1) := by decide +kernel
theorem dX12_step_243 : decode cX12_step 243 = .ok (.putfield 211, 3) := by decide +kernel
theorem dX12_step_246 : decode cX12_step 246 = .ok (.aload_n 0, 1) := by decide +kernel
theorem dX12_step_247 : decode cX12_step 247 = .ok (.aload_n 0, 1) := by decide +kernel
theorem dX12_step_248 : decode cX12_step 248 = .ok (.getfield 201, 3) := by decide +kernel
theorem dX12_step_251 : decode cX12_step 251 = .ok (.putfield 223, 3) := by decide +kernel
theorem dX12_step_254 : decode cX12_step 254 = .ok (.return_, 1) := by decide +kernel
def wX12_step_222 (k227 : Int32 → Int32 → km_S → Prop) (Q : km_S → Prop) (l1 : Int32) (μ : km_S) : Prop := k227 l1 1 μ
def wX12_step_238 (k246 : km_S → Prop) (Q : km_S → Prop) (l1 : Int32) (s0 : Int32) (μ : km_S) : Prop := ∀ μ1, μ1 = km_si μ 62 s0 → ∀ μ2, μ2 = km_si μ1 63 l1 → k246 μ2
def wX12_step_150 (k246 : km_S → Prop) (Q : km_S → Prop) (μ : km_S) : Prop := ∀ μ3, μ3 = km_si μ 62 2 → k246 μ3
def wX12_step_108 (k246 : km_S → Prop) (Q : km_S → Prop) (μ : km_S) : Prop := ∀ μ4, μ4 = km_si μ 62 1 → k246 μ4
def wX12_step_246 (Q : km_S → Prop) (μ : km_S) : Prop := ∀ μ5, μ5 = km_si μ 65 (km_i μ 60) → Q μ5
def wX12_step_26 (k0 : km_S → Prop) (Q : km_S → Prop) (μ : km_S) : Prop := ∀ μ6, μ6 = km_si μ 60 ((km_i μ 60) + 1) → k0 μ6
def wX12_step_227 (k246 : km_S → Prop) (Q : km_S → Prop) (l1 : Int32) (s0 : Int32) (μ : km_S) : Prop := ((s0 = 0 → wX12_step_238 k246 Q l1 4 μ) ∧
  (¬ (s0 = 0) → wX12_step_238 k246 Q l1 3 μ))
def wX12_step_123 (k150 : km_S → Prop) (Q : km_S → Prop) : Nat → km_S → Prop
  | 0, _ => False
  | n + 1, μ => wX12_byteAt (km_i μ 60) μ fun r9 μ8 => wX12_isDigit r9 μ8 fun r11 μ10 => ((r11 = 0 → k150 μ10) ∧
    (¬ (r11 = 0) → ∀ μ13, μ13 = km_si μ10 60 ((km_i μ10 60) + 1) → wX12_step_123 k150 Q n  μ13))
def wX12_step_81 (k108 : km_S → Prop) (Q : km_S → Prop) : Nat → km_S → Prop
  | 0, _ => False
  | n + 1, μ => wX12_byteAt (km_i μ 60) μ fun r15 μ14 => wX12_isLetter r15 μ14 fun r17 μ16 => ((r17 = 0 → k108 μ16) ∧
    (¬ (r17 = 0) → ∀ μ19, μ19 = km_si μ16 60 ((km_i μ16 60) + 1) → wX12_step_81 k108 Q n  μ19))
def wX12_step_0 (k39 : km_S → Prop) (Q : km_S → Prop) : Nat → km_S → Prop
  | 0, _ => False
  | n + 1, μ => wX12_byteAt (km_i μ 60) μ fun r21 μ20 => ((r21 = 32 → wX12_step_26 (wX12_step_0 k39 Q n) Q μ20) ∧
    (¬ (r21 = 32) → wX12_byteAt (km_i μ20 60) μ20 fun r24 μ23 => ((¬ r24 = 10 → k39 μ23) ∧
      (r24 = 10 → wX12_step_26 (wX12_step_0 k39 Q n) Q μ23))))
def wX12_step_39 (Q : km_S → Prop) (μ : km_S) : Prop := ∀ μ26, μ26 = km_si μ 64 (km_i μ 60) → ∀ μ27, μ27 = km_si μ26 63 0 → wX12_byteAt (km_i μ27 60) μ27 fun r29 μ28 => ((¬ r29 = (-1) → wX12_isLetter r29 μ28 fun r32 μ31 => ((r32 = 0 → wX12_isDigit r29 μ31 fun r35 μ34 => ((r35 = 0 → ∀ μ37, μ37 = km_si μ34 60 ((km_i μ34 60) + 1) → ((r29 = 40 → wX12_step_222 (wX12_step_227 (wX12_step_246 Q) Q) Q r29 μ37) ∧
        (¬ (r29 = 40) → ((r29 = 41 → wX12_step_222 (wX12_step_227 (wX12_step_246 Q) Q) Q r29 μ37) ∧
          (¬ (r29 = 41) → ((r29 = 59 → wX12_step_222 (wX12_step_227 (wX12_step_246 Q) Q) Q r29 μ37) ∧
            (¬ (r29 = 59) → ((r29 = 43 → wX12_step_222 (wX12_step_227 (wX12_step_246 Q) Q) Q r29 μ37) ∧
              (¬ (r29 = 43) → ((r29 = 45 → wX12_step_222 (wX12_step_227 (wX12_step_246 Q) Q) Q r29 μ37) ∧
                (¬ (r29 = 45) → ((r29 = 42 → wX12_step_222 (wX12_step_227 (wX12_step_246 Q) Q) Q r29 μ37) ∧
                  (¬ (r29 = 42) → ((r29 = 47 → wX12_step_222 (wX12_step_227 (wX12_step_246 Q) Q) Q r29 μ37) ∧
                    (¬ (r29 = 47) → ((r29 = 60 → wX12_step_222 (wX12_step_227 (wX12_step_246 Q) Q) Q r29 μ37) ∧
                      (¬ (r29 = 60) → ((¬ r29 = 61 → wX12_step_227 (wX12_step_246 Q) Q r29 0 μ37) ∧
                        (r29 = 61 → wX12_step_222 (wX12_step_227 (wX12_step_246 Q) Q) Q r29 μ37))))))))))))))))))) ∧
      (¬ (r35 = 0) → ∃ j, wX12_step_123 (wX12_step_150 (wX12_step_246 Q) Q) Q j μ34))) ∧
    (¬ (r32 = 0) → ∃ j, wX12_step_81 (wX12_step_108 (wX12_step_246 Q) Q) Q j μ31))) ∧
  (r29 = (-1) → ∀ μ49, μ49 = km_si μ28 62 0 → wX12_step_246 Q μ49))
def wX12_step (μ : km_S) (Q : km_S → Prop) : Prop := ∃ j, wX12_step_0 (wX12_step_39 Q) Q j μ
set_option maxRecDepth 100000 in
set_option maxHeartbeats 4000000 in
theorem tX12_step_222 (l : Launch) (G : km_G) {p : Program} {e : Env} {s : State} {m : MethodId} {args : Array Value} {below : List Frame} {meth : Method} {c : Code} (F : CallFix p m c cX12_step 3 s args kt_ RX12) (hr : meth.sig.returnType = none) (hlocks : meth.locks = false) (Q : km_S → Prop) (k227 : Int32 → Int32 → km_S → Prop) (hk227 : ∀ (l1 : Int32) (s0 : Int32) (μ : km_S) (H : Heap) (locs : List Loc) (ls : Array Slot), k227 l1 s0 μ → km_X G s H locs μ → lv_has ls 3 [(0, .ref (G.1 0)), (1, .int l1)] → W p l e { frames := 1, cells := 0, slots := 0, locals := 21 } s m args below meth c H locs 0 0 (MQ below (km_Qv G Q) args s 0 0 (km_A G)) (F0 m 227 ls [.int s0])) : ∀ (l1 : Int32) (μ : km_S) (H : Heap) (locs : List Loc) (ls : Array Slot), wX12_step_222 k227 Q l1 μ → km_X G s H locs μ → lv_has ls 3 [(0, .ref (G.1 0)), (1, .int l1)] → W p l e { frames := 1, cells := 0, slots := 0, locals := 21 } s m args below meth c H locs 0 0 (MQ below (km_Qv G Q) args s 0 0 (km_A G)) (F0 m 222 ls []) := by
  intro l1 μ H locs ls h C hl
  refine lv_iconst (v := 1) F.1 F.2.1 dX12_step_222 (by decide) ?_
  refine lv_goto (tgt := 227) F.1 F.2.1 dX12_step_223 (by decide) ?_
  exact hk227 l1 1 μ H locs ls h C (lv_sub hl [0, 1] rfl)
set_option maxRecDepth 100000 in
set_option maxHeartbeats 4000000 in
theorem tX12_step_238 (l : Launch) (G : km_G) {p : Program} {e : Env} {s : State} {m : MethodId} {args : Array Value} {below : List Frame} {meth : Method} {c : Code} (F : CallFix p m c cX12_step 3 s args kt_ RX12) (hr : meth.sig.returnType = none) (hlocks : meth.locks = false) (Q : km_S → Prop) (k246 : km_S → Prop) (hk246 : ∀  (μ : km_S) (H : Heap) (locs : List Loc) (ls : Array Slot), k246  μ → km_X G s H locs μ → lv_has ls 3 [(0, .ref (G.1 0))] → W p l e { frames := 1, cells := 0, slots := 0, locals := 21 } s m args below meth c H locs 0 0 (MQ below (km_Qv G Q) args s 0 0 (km_A G)) (F0 m 246 ls [])) : ∀ (l1 : Int32) (s0 : Int32) (μ : km_S) (H : Heap) (locs : List Loc) (ls : Array Slot), wX12_step_238 k246 Q l1 s0 μ → km_X G s H locs μ → lv_has ls 3 [(0, .ref (G.1 0)), (1, .int l1)] → W p l e { frames := 1, cells := 0, slots := 0, locals := 21 } s m args below meth c H locs 0 0 (MQ below (km_Qv G Q) args s 0 0 (km_A G)) (F0 m 238 ls [.int s0, .ref (G.1 0)]) := by
  intro l1 s0 μ H locs ls h C hl
  refine kp_token F C dX12_step_238 (fun H locs C => ?_)
  generalize eμ1 : km_si μ 62 s0 = μ1 at C
  have h := h μ1 eμ1.symm
  refine lv_aload_n F.1 F.2.1 dX12_step_241 rfl (lv_at hl 0 rfl) ?_
  refine lv_iload_n F.1 F.2.1 dX12_step_242 rfl (lv_at hl 1 rfl) ?_
  refine kp_sign F C dX12_step_243 (fun H locs C => ?_)
  generalize eμ2 : km_si μ1 63 l1 = μ2 at C
  have h := h μ2 eμ2.symm
  exact hk246 μ2 H locs ls h C (lv_sub hl [0] rfl)
set_option maxRecDepth 100000 in
set_option maxHeartbeats 4000000 in
theorem tX12_step_150 (l : Launch) (G : km_G) {p : Program} {e : Env} {s : State} {m : MethodId} {args : Array Value} {below : List Frame} {meth : Method} {c : Code} (F : CallFix p m c cX12_step 3 s args kt_ RX12) (hr : meth.sig.returnType = none) (hlocks : meth.locks = false) (Q : km_S → Prop) (k246 : km_S → Prop) (hk246 : ∀  (μ : km_S) (H : Heap) (locs : List Loc) (ls : Array Slot), k246  μ → km_X G s H locs μ → lv_has ls 3 [(0, .ref (G.1 0))] → W p l e { frames := 1, cells := 0, slots := 0, locals := 21 } s m args below meth c H locs 0 0 (MQ below (km_Qv G Q) args s 0 0 (km_A G)) (F0 m 246 ls [])) : ∀ (μ : km_S) (H : Heap) (locs : List Loc) (ls : Array Slot), wX12_step_150 k246 Q μ → km_X G s H locs μ → lv_has ls 3 [(0, .ref (G.1 0))] → W p l e { frames := 1, cells := 0, slots := 0, locals := 21 } s m args below meth c H locs 0 0 (MQ below (km_Qv G Q) args s 0 0 (km_A G)) (F0 m 150 ls []) := by
  intro  μ H locs ls h C hl
  refine lv_aload_n F.1 F.2.1 dX12_step_150 rfl (lv_at hl 0 rfl) ?_
  refine lv_iconst (v := 2) F.1 F.2.1 dX12_step_151 (by decide) ?_
  refine kp_token F C dX12_step_152 (fun H locs C => ?_)
  generalize eμ3 : km_si μ 62 2 = μ3 at C
  have h := h μ3 eμ3.symm
  refine lv_goto (tgt := 246) F.1 F.2.1 dX12_step_155 (by decide) ?_
  exact hk246 μ3 H locs ls h C (lv_sub hl [0] rfl)
set_option maxRecDepth 100000 in
set_option maxHeartbeats 4000000 in
theorem tX12_step_108 (l : Launch) (G : km_G) {p : Program} {e : Env} {s : State} {m : MethodId} {args : Array Value} {below : List Frame} {meth : Method} {c : Code} (F : CallFix p m c cX12_step 3 s args kt_ RX12) (hr : meth.sig.returnType = none) (hlocks : meth.locks = false) (Q : km_S → Prop) (k246 : km_S → Prop) (hk246 : ∀  (μ : km_S) (H : Heap) (locs : List Loc) (ls : Array Slot), k246  μ → km_X G s H locs μ → lv_has ls 3 [(0, .ref (G.1 0))] → W p l e { frames := 1, cells := 0, slots := 0, locals := 21 } s m args below meth c H locs 0 0 (MQ below (km_Qv G Q) args s 0 0 (km_A G)) (F0 m 246 ls [])) : ∀ (μ : km_S) (H : Heap) (locs : List Loc) (ls : Array Slot), wX12_step_108 k246 Q μ → km_X G s H locs μ → lv_has ls 3 [(0, .ref (G.1 0))] → W p l e { frames := 1, cells := 0, slots := 0, locals := 21 } s m args below meth c H locs 0 0 (MQ below (km_Qv G Q) args s 0 0 (km_A G)) (F0 m 108 ls []) := by
  intro  μ H locs ls h C hl
  refine lv_aload_n F.1 F.2.1 dX12_step_108 rfl (lv_at hl 0 rfl) ?_
  refine lv_iconst (v := 1) F.1 F.2.1 dX12_step_109 (by decide) ?_
  refine kp_token F C dX12_step_110 (fun H locs C => ?_)
  generalize eμ4 : km_si μ 62 1 = μ4 at C
  have h := h μ4 eμ4.symm
  refine lv_goto (tgt := 246) F.1 F.2.1 dX12_step_113 (by decide) ?_
  exact hk246 μ4 H locs ls h C (lv_sub hl [0] rfl)
set_option maxRecDepth 100000 in
set_option maxHeartbeats 4000000 in
theorem tX12_step_246 (l : Launch) (G : km_G) {p : Program} {e : Env} {s : State} {m : MethodId} {args : Array Value} {below : List Frame} {meth : Method} {c : Code} (F : CallFix p m c cX12_step 3 s args kt_ RX12) (hr : meth.sig.returnType = none) (hlocks : meth.locks = false) (Q : km_S → Prop) : ∀ (μ : km_S) (H : Heap) (locs : List Loc) (ls : Array Slot), wX12_step_246 Q μ → km_X G s H locs μ → lv_has ls 3 [(0, .ref (G.1 0))] → W p l e { frames := 1, cells := 0, slots := 0, locals := 21 } s m args below meth c H locs 0 0 (MQ below (km_Qv G Q) args s 0 0 (km_A G)) (F0 m 246 ls []) := by
  intro  μ H locs ls h C hl
  refine lv_aload_n F.1 F.2.1 dX12_step_246 rfl (lv_at hl 0 rfl) ?_
  refine lv_aload_n F.1 F.2.1 dX12_step_247 rfl (lv_at hl 0 rfl) ?_
  refine kg_at F C dX12_step_248 ?_
  refine kp_ends F C dX12_step_251 (fun H locs C => ?_)
  generalize eμ5 : km_si μ 65 (km_i μ 60) = μ5 at C
  have h := h μ5 eμ5.symm
  exact km_vret F C hr hlocks h dX12_step_254
set_option maxRecDepth 100000 in
set_option maxHeartbeats 4000000 in
theorem tX12_step_26 (l : Launch) (G : km_G) {p : Program} {e : Env} {s : State} {m : MethodId} {args : Array Value} {below : List Frame} {meth : Method} {c : Code} (F : CallFix p m c cX12_step 3 s args kt_ RX12) (hr : meth.sig.returnType = none) (hlocks : meth.locks = false) (Q : km_S → Prop) (k0 : km_S → Prop) (hk0 : ∀  (μ : km_S) (H : Heap) (locs : List Loc) (ls : Array Slot), k0  μ → km_X G s H locs μ → lv_has ls 3 [(0, .ref (G.1 0))] → W p l e { frames := 1, cells := 0, slots := 0, locals := 21 } s m args below meth c H locs 0 0 (MQ below (km_Qv G Q) args s 0 0 (km_A G)) (F0 m 0 ls [])) : ∀ (μ : km_S) (H : Heap) (locs : List Loc) (ls : Array Slot), wX12_step_26 k0 Q μ → km_X G s H locs μ → lv_has ls 3 [(0, .ref (G.1 0))] → W p l e { frames := 1, cells := 0, slots := 0, locals := 21 } s m args below meth c H locs 0 0 (MQ below (km_Qv G Q) args s 0 0 (km_A G)) (F0 m 26 ls []) := by
  intro  μ H locs ls h C hl
  refine lv_aload_n F.1 F.2.1 dX12_step_26 rfl (lv_at hl 0 rfl) ?_
  refine lv_dup F.1 F.2.1 dX12_step_27 rfl ?_
  refine kg_at F C dX12_step_28 ?_
  refine lv_iconst (v := 1) F.1 F.2.1 dX12_step_31 (by decide) ?_
  refine lv_iadd (x := km_i μ 60) (y := 1) F.1 F.2.1 dX12_step_32 ?_
  refine kp_at F C dX12_step_33 (fun H locs C => ?_)
  generalize eμ6 : km_si μ 60 ((km_i μ 60) + 1) = μ6 at C
  have h := h μ6 eμ6.symm
  refine lv_goto (tgt := 0) F.1 F.2.1 dX12_step_36 (by decide) ?_
  exact hk0 μ6 H locs ls h C (lv_sub hl [0] rfl)
set_option maxRecDepth 100000 in
set_option maxHeartbeats 4000000 in
theorem tX12_step_227 (l : Launch) (G : km_G) {p : Program} {e : Env} {s : State} {m : MethodId} {args : Array Value} {below : List Frame} {meth : Method} {c : Code} (F : CallFix p m c cX12_step 3 s args kt_ RX12) (hr : meth.sig.returnType = none) (hlocks : meth.locks = false) (Q : km_S → Prop) (k246 : km_S → Prop) (hk246 : ∀  (μ : km_S) (H : Heap) (locs : List Loc) (ls : Array Slot), k246  μ → km_X G s H locs μ → lv_has ls 3 [(0, .ref (G.1 0))] → W p l e { frames := 1, cells := 0, slots := 0, locals := 21 } s m args below meth c H locs 0 0 (MQ below (km_Qv G Q) args s 0 0 (km_A G)) (F0 m 246 ls [])) : ∀ (l1 : Int32) (s0 : Int32) (μ : km_S) (H : Heap) (locs : List Loc) (ls : Array Slot), wX12_step_227 k246 Q l1 s0 μ → km_X G s H locs μ → lv_has ls 3 [(0, .ref (G.1 0)), (1, .int l1)] → W p l e { frames := 1, cells := 0, slots := 0, locals := 21 } s m args below meth c H locs 0 0 (MQ below (km_Qv G Q) args s 0 0 (km_A G)) (F0 m 227 ls [.int s0]) := by
  intro l1 s0 μ H locs ls h C hl
  refine lv_istore_n (lv' := [(2, .int s0), (0, .ref (G.1 0)), (1, .int l1)]) F.1 F.2.1 dX12_step_227 rfl hl (by decide) rfl (fun ls hl => ?_)
  refine lv_aload_n F.1 F.2.1 dX12_step_228 rfl (lv_at hl 1 rfl) ?_
  refine lv_iload_n F.1 F.2.1 dX12_step_229 rfl (lv_at hl 0 rfl) ?_
  refine lv_if_eq (tgt := 237) F.1 F.2.1 dX12_step_230 (by decide) (fun c7 => ?_) (fun c7 => ?_)
  · have h := h.1 c7
    refine lv_iconst (v := 4) F.1 F.2.1 dX12_step_237 (by decide) ?_
    exact tX12_step_238 l G F hr hlocks Q k246 hk246 l1 4 μ H locs ls h C (lv_sub hl [1, 2] rfl)
  · have h := h.2 c7
    refine lv_iconst (v := 3) F.1 F.2.1 dX12_step_233 (by decide) ?_
    refine lv_goto (tgt := 238) F.1 F.2.1 dX12_step_234 (by decide) ?_
    exact tX12_step_238 l G F hr hlocks Q k246 hk246 l1 3 μ H locs ls h C (lv_sub hl [1, 2] rfl)
set_option maxRecDepth 100000 in
set_option maxHeartbeats 4000000 in
theorem tX12_step_123 (l : Launch) (G : km_G) {p : Program} {e : Env} {s : State} {m : MethodId} {args : Array Value} {below : List Frame} {meth : Method} {c : Code} (F : CallFix p m c cX12_step 3 s args kt_ RX12) (hr : meth.sig.returnType = none) (hlocks : meth.locks = false) (Q : km_S → Prop) (k150 : km_S → Prop) (hk150 : ∀  (μ : km_S) (H : Heap) (locs : List Loc) (ls : Array Slot), k150  μ → km_X G s H locs μ → lv_has ls 3 [(0, .ref (G.1 0))] → W p l e { frames := 1, cells := 0, slots := 0, locals := 21 } s m args below meth c H locs 0 0 (MQ below (km_Qv G Q) args s 0 0 (km_A G)) (F0 m 150 ls [])) : ∀ (n : Nat) (μ : km_S) (H : Heap) (locs : List Loc) (ls : Array Slot), wX12_step_123 k150 Q n μ → km_X G s H locs μ → lv_has ls 3 [(0, .ref (G.1 0))] → W p l e { frames := 1, cells := 0, slots := 0, locals := 21 } s m args below meth c H locs 0 0 (MQ below (km_Qv G Q) args s 0 0 (km_A G)) (F0 m 123 ls []) := by
  intro n
  induction n with
  | zero => intro  μ H locs ls h; exact h.elim
  | succ n ih =>
    intro  μ H locs ls h C hl
    refine lv_aload_n F.1 F.2.1 dX12_step_123 rfl (lv_at hl 0 rfl) ?_
    refine lv_aload_n F.1 F.2.1 dX12_step_124 rfl (lv_at hl 0 rfl) ?_
    refine kg_at F C dX12_step_125 ?_
    refine kc_X12_byteAt F C h (Nat.le_of_ble_eq_true rfl) (Nat.le_of_ble_eq_true rfl) hl.1 (by simp [Value.category]) dX12_step_128 (fun r9 μ8 H locs h C => ?_)
    refine kc_X12_isDigit F C h (Nat.le_of_ble_eq_true rfl) (Nat.le_of_ble_eq_true rfl) hl.1 (by simp [Value.category]) dX12_step_131 (fun r11 μ10 H locs h C => ?_)
    refine lv_if_eq (tgt := 150) F.1 F.2.1 dX12_step_134 (by decide) (fun c12 => ?_) (fun c12 => ?_)
    · have h := h.1 c12
      exact hk150 μ10 H locs ls h C (lv_sub hl [0] rfl)
    · have h := h.2 c12
      refine lv_aload_n F.1 F.2.1 dX12_step_137 rfl (lv_at hl 0 rfl) ?_
      refine lv_dup F.1 F.2.1 dX12_step_138 rfl ?_
      refine kg_at F C dX12_step_139 ?_
      refine lv_iconst (v := 1) F.1 F.2.1 dX12_step_142 (by decide) ?_
      refine lv_iadd (x := km_i μ10 60) (y := 1) F.1 F.2.1 dX12_step_143 ?_
      refine kp_at F C dX12_step_144 (fun H locs C => ?_)
      generalize eμ13 : km_si μ10 60 ((km_i μ10 60) + 1) = μ13 at C
      have h := h μ13 eμ13.symm
      refine lv_goto (tgt := 123) F.1 F.2.1 dX12_step_147 (by decide) ?_
      exact ih μ13 H locs ls h C (lv_sub hl [0] rfl)
set_option maxRecDepth 100000 in
set_option maxHeartbeats 4000000 in
theorem tX12_step_81 (l : Launch) (G : km_G) {p : Program} {e : Env} {s : State} {m : MethodId} {args : Array Value} {below : List Frame} {meth : Method} {c : Code} (F : CallFix p m c cX12_step 3 s args kt_ RX12) (hr : meth.sig.returnType = none) (hlocks : meth.locks = false) (Q : km_S → Prop) (k108 : km_S → Prop) (hk108 : ∀  (μ : km_S) (H : Heap) (locs : List Loc) (ls : Array Slot), k108  μ → km_X G s H locs μ → lv_has ls 3 [(0, .ref (G.1 0))] → W p l e { frames := 1, cells := 0, slots := 0, locals := 21 } s m args below meth c H locs 0 0 (MQ below (km_Qv G Q) args s 0 0 (km_A G)) (F0 m 108 ls [])) : ∀ (n : Nat) (μ : km_S) (H : Heap) (locs : List Loc) (ls : Array Slot), wX12_step_81 k108 Q n μ → km_X G s H locs μ → lv_has ls 3 [(0, .ref (G.1 0))] → W p l e { frames := 1, cells := 0, slots := 0, locals := 21 } s m args below meth c H locs 0 0 (MQ below (km_Qv G Q) args s 0 0 (km_A G)) (F0 m 81 ls []) := by
  intro n
  induction n with
  | zero => intro  μ H locs ls h; exact h.elim
  | succ n ih =>
    intro  μ H locs ls h C hl
    refine lv_aload_n F.1 F.2.1 dX12_step_81 rfl (lv_at hl 0 rfl) ?_
    refine lv_aload_n F.1 F.2.1 dX12_step_82 rfl (lv_at hl 0 rfl) ?_
    refine kg_at F C dX12_step_83 ?_
    refine kc_X12_byteAt F C h (Nat.le_of_ble_eq_true rfl) (Nat.le_of_ble_eq_true rfl) hl.1 (by simp [Value.category]) dX12_step_86 (fun r15 μ14 H locs h C => ?_)
    refine kc_X12_isLetter F C h (Nat.le_of_ble_eq_true rfl) (Nat.le_of_ble_eq_true rfl) hl.1 (by simp [Value.category]) dX12_step_89 (fun r17 μ16 H locs h C => ?_)
    refine lv_if_eq (tgt := 108) F.1 F.2.1 dX12_step_92 (by decide) (fun c18 => ?_) (fun c18 => ?_)
    · have h := h.1 c18
      exact hk108 μ16 H locs ls h C (lv_sub hl [0] rfl)
    · have h := h.2 c18
      refine lv_aload_n F.1 F.2.1 dX12_step_95 rfl (lv_at hl 0 rfl) ?_
      refine lv_dup F.1 F.2.1 dX12_step_96 rfl ?_
      refine kg_at F C dX12_step_97 ?_
      refine lv_iconst (v := 1) F.1 F.2.1 dX12_step_100 (by decide) ?_
      refine lv_iadd (x := km_i μ16 60) (y := 1) F.1 F.2.1 dX12_step_101 ?_
      refine kp_at F C dX12_step_102 (fun H locs C => ?_)
      generalize eμ19 : km_si μ16 60 ((km_i μ16 60) + 1) = μ19 at C
      have h := h μ19 eμ19.symm
      refine lv_goto (tgt := 81) F.1 F.2.1 dX12_step_105 (by decide) ?_
      exact ih μ19 H locs ls h C (lv_sub hl [0] rfl)
set_option maxRecDepth 100000 in
set_option maxHeartbeats 4000000 in
theorem tX12_step_0 (l : Launch) (G : km_G) {p : Program} {e : Env} {s : State} {m : MethodId} {args : Array Value} {below : List Frame} {meth : Method} {c : Code} (F : CallFix p m c cX12_step 3 s args kt_ RX12) (hr : meth.sig.returnType = none) (hlocks : meth.locks = false) (Q : km_S → Prop) (k39 : km_S → Prop) (hk39 : ∀  (μ : km_S) (H : Heap) (locs : List Loc) (ls : Array Slot), k39  μ → km_X G s H locs μ → lv_has ls 3 [(0, .ref (G.1 0))] → W p l e { frames := 1, cells := 0, slots := 0, locals := 21 } s m args below meth c H locs 0 0 (MQ below (km_Qv G Q) args s 0 0 (km_A G)) (F0 m 39 ls [])) : ∀ (n : Nat) (μ : km_S) (H : Heap) (locs : List Loc) (ls : Array Slot), wX12_step_0 k39 Q n μ → km_X G s H locs μ → lv_has ls 3 [(0, .ref (G.1 0))] → W p l e { frames := 1, cells := 0, slots := 0, locals := 21 } s m args below meth c H locs 0 0 (MQ below (km_Qv G Q) args s 0 0 (km_A G)) (F0 m 0 ls []) := by
  intro n
  induction n with
  | zero => intro  μ H locs ls h; exact h.elim
  | succ n ih =>
    intro  μ H locs ls h C hl
    refine lv_aload_n F.1 F.2.1 dX12_step_0 rfl (lv_at hl 0 rfl) ?_
    refine lv_aload_n F.1 F.2.1 dX12_step_1 rfl (lv_at hl 0 rfl) ?_
    refine kg_at F C dX12_step_2 ?_
    refine kc_X12_byteAt F C h (Nat.le_of_ble_eq_true rfl) (Nat.le_of_ble_eq_true rfl) hl.1 (by simp [Value.category]) dX12_step_5 (fun r21 μ20 H locs h C => ?_)
    refine lv_bipush (v := 32) F.1 F.2.1 dX12_step_8 (by decide) ?_
    refine lv_icmp_eq (tgt := 26) F.1 F.2.1 dX12_step_10 (by decide) (fun c22 => ?_) (fun c22 => ?_)
    · have h := h.1 c22
      exact tX12_step_26 l G F hr hlocks Q (wX12_step_0 k39 Q n) (fun  μ9 H locs ls h C hl => ih  μ9 H locs ls h C hl) μ20 H locs ls h C (lv_sub hl [0] rfl)
    · have h := h.2 c22
      refine lv_aload_n F.1 F.2.1 dX12_step_13 rfl (lv_at hl 0 rfl) ?_
      refine lv_aload_n F.1 F.2.1 dX12_step_14 rfl (lv_at hl 0 rfl) ?_
      refine kg_at F C dX12_step_15 ?_
      refine kc_X12_byteAt F C h (Nat.le_of_ble_eq_true rfl) (Nat.le_of_ble_eq_true rfl) hl.1 (by simp [Value.category]) dX12_step_18 (fun r24 μ23 H locs h C => ?_)
      refine lv_bipush (v := 10) F.1 F.2.1 dX12_step_21 (by decide) ?_
      refine lv_icmp_ne (tgt := 39) F.1 F.2.1 dX12_step_23 (by decide) (fun c25 => ?_) (fun c25 => ?_)
      · have h := h.1 c25
        exact hk39 μ23 H locs ls h C (lv_sub hl [0] rfl)
      · have h := h.2 c25
        exact tX12_step_26 l G F hr hlocks Q (wX12_step_0 k39 Q n) (fun  μ9 H locs ls h C hl => ih  μ9 H locs ls h C hl) μ23 H locs ls h C (lv_sub hl [0] rfl)
set_option maxRecDepth 100000 in
set_option maxHeartbeats 4000000 in
theorem tX12_step_39 (l : Launch) (G : km_G) {p : Program} {e : Env} {s : State} {m : MethodId} {args : Array Value} {below : List Frame} {meth : Method} {c : Code} (F : CallFix p m c cX12_step 3 s args kt_ RX12) (hr : meth.sig.returnType = none) (hlocks : meth.locks = false) (Q : km_S → Prop) : ∀ (μ : km_S) (H : Heap) (locs : List Loc) (ls : Array Slot), wX12_step_39 Q μ → km_X G s H locs μ → lv_has ls 3 [(0, .ref (G.1 0))] → W p l e { frames := 1, cells := 0, slots := 0, locals := 21 } s m args below meth c H locs 0 0 (MQ below (km_Qv G Q) args s 0 0 (km_A G)) (F0 m 39 ls []) := by
  intro  μ H locs ls h C hl
  refine lv_aload_n F.1 F.2.1 dX12_step_39 rfl (lv_at hl 0 rfl) ?_
  refine lv_aload_n F.1 F.2.1 dX12_step_40 rfl (lv_at hl 0 rfl) ?_
  refine kg_at F C dX12_step_41 ?_
  refine kp_begins F C dX12_step_44 (fun H locs C => ?_)
  generalize eμ26 : km_si μ 64 (km_i μ 60) = μ26 at C
  have h := h μ26 eμ26.symm
  refine lv_aload_n F.1 F.2.1 dX12_step_47 rfl (lv_at hl 0 rfl) ?_
  refine lv_iconst (v := 0) F.1 F.2.1 dX12_step_48 (by decide) ?_
  refine kp_sign F C dX12_step_49 (fun H locs C => ?_)
  generalize eμ27 : km_si μ26 63 0 = μ27 at C
  have h := h μ27 eμ27.symm
  refine lv_aload_n F.1 F.2.1 dX12_step_52 rfl (lv_at hl 0 rfl) ?_
  refine lv_aload_n F.1 F.2.1 dX12_step_53 rfl (lv_at hl 0 rfl) ?_
  refine kg_at F C dX12_step_54 ?_
  refine kc_X12_byteAt F C h (Nat.le_of_ble_eq_true rfl) (Nat.le_of_ble_eq_true rfl) hl.1 (by simp [Value.category]) dX12_step_57 (fun r29 μ28 H locs h C => ?_)
  refine lv_istore_n (lv' := [(1, .int r29), (0, .ref (G.1 0))]) F.1 F.2.1 dX12_step_60 rfl hl (by decide) rfl (fun ls hl => ?_)
  refine lv_iload_n F.1 F.2.1 dX12_step_61 rfl (lv_at hl 0 rfl) ?_
  refine lv_iconst (v := (-1)) F.1 F.2.1 dX12_step_62 (by decide) ?_
  refine lv_icmp_ne (tgt := 74) F.1 F.2.1 dX12_step_63 (by decide) (fun c30 => ?_) (fun c30 => ?_)
  · have h := h.1 c30
    refine lv_iload_n F.1 F.2.1 dX12_step_74 rfl (lv_at hl 0 rfl) ?_
    refine kc_X12_isLetter F C h (Nat.le_of_ble_eq_true rfl) (Nat.le_of_ble_eq_true rfl) hl.1 (by simp [Value.category]) dX12_step_75 (fun r32 μ31 H locs h C => ?_)
    refine lv_if_eq (tgt := 116) F.1 F.2.1 dX12_step_78 (by decide) (fun c33 => ?_) (fun c33 => ?_)
    · have h := h.1 c33
      refine lv_iload_n F.1 F.2.1 dX12_step_116 rfl (lv_at hl 0 rfl) ?_
      refine kc_X12_isDigit F C h (Nat.le_of_ble_eq_true rfl) (Nat.le_of_ble_eq_true rfl) hl.1 (by simp [Value.category]) dX12_step_117 (fun r35 μ34 H locs h C => ?_)
      refine lv_if_eq (tgt := 158) F.1 F.2.1 dX12_step_120 (by decide) (fun c36 => ?_) (fun c36 => ?_)
      · have h := h.1 c36
        refine lv_aload_n F.1 F.2.1 dX12_step_158 rfl (lv_at hl 1 rfl) ?_
        refine lv_dup F.1 F.2.1 dX12_step_159 rfl ?_
        refine kg_at F C dX12_step_160 ?_
        refine lv_iconst (v := 1) F.1 F.2.1 dX12_step_163 (by decide) ?_
        refine lv_iadd (x := km_i μ34 60) (y := 1) F.1 F.2.1 dX12_step_164 ?_
        refine kp_at F C dX12_step_165 (fun H locs C => ?_)
        generalize eμ37 : km_si μ34 60 ((km_i μ34 60) + 1) = μ37 at C
        have h := h μ37 eμ37.symm
        refine lv_iload_n F.1 F.2.1 dX12_step_168 rfl (lv_at hl 0 rfl) ?_
        refine lv_bipush (v := 40) F.1 F.2.1 dX12_step_169 (by decide) ?_
        refine lv_icmp_eq (tgt := 222) F.1 F.2.1 dX12_step_171 (by decide) (fun c38 => ?_) (fun c38 => ?_)
        · have h := h.1 c38
          exact tX12_step_222 l G F hr hlocks Q (wX12_step_227 (wX12_step_246 Q) Q) (tX12_step_227 l G F hr hlocks Q (wX12_step_246 Q) (tX12_step_246 l G F hr hlocks Q)) r29 μ37 H locs ls h C (lv_sub hl [1, 0] rfl)
        · have h := h.2 c38
          refine lv_iload_n F.1 F.2.1 dX12_step_174 rfl (lv_at hl 0 rfl) ?_
          refine lv_bipush (v := 41) F.1 F.2.1 dX12_step_175 (by decide) ?_
          refine lv_icmp_eq (tgt := 222) F.1 F.2.1 dX12_step_177 (by decide) (fun c39 => ?_) (fun c39 => ?_)
          · have h := h.1 c39
            exact tX12_step_222 l G F hr hlocks Q (wX12_step_227 (wX12_step_246 Q) Q) (tX12_step_227 l G F hr hlocks Q (wX12_step_246 Q) (tX12_step_246 l G F hr hlocks Q)) r29 μ37 H locs ls h C (lv_sub hl [1, 0] rfl)
          · have h := h.2 c39
            refine lv_iload_n F.1 F.2.1 dX12_step_180 rfl (lv_at hl 0 rfl) ?_
            refine lv_bipush (v := 59) F.1 F.2.1 dX12_step_181 (by decide) ?_
            refine lv_icmp_eq (tgt := 222) F.1 F.2.1 dX12_step_183 (by decide) (fun c40 => ?_) (fun c40 => ?_)
            · have h := h.1 c40
              exact tX12_step_222 l G F hr hlocks Q (wX12_step_227 (wX12_step_246 Q) Q) (tX12_step_227 l G F hr hlocks Q (wX12_step_246 Q) (tX12_step_246 l G F hr hlocks Q)) r29 μ37 H locs ls h C (lv_sub hl [1, 0] rfl)
            · have h := h.2 c40
              refine lv_iload_n F.1 F.2.1 dX12_step_186 rfl (lv_at hl 0 rfl) ?_
              refine lv_bipush (v := 43) F.1 F.2.1 dX12_step_187 (by decide) ?_
              refine lv_icmp_eq (tgt := 222) F.1 F.2.1 dX12_step_189 (by decide) (fun c41 => ?_) (fun c41 => ?_)
              · have h := h.1 c41
                exact tX12_step_222 l G F hr hlocks Q (wX12_step_227 (wX12_step_246 Q) Q) (tX12_step_227 l G F hr hlocks Q (wX12_step_246 Q) (tX12_step_246 l G F hr hlocks Q)) r29 μ37 H locs ls h C (lv_sub hl [1, 0] rfl)
              · have h := h.2 c41
                refine lv_iload_n F.1 F.2.1 dX12_step_192 rfl (lv_at hl 0 rfl) ?_
                refine lv_bipush (v := 45) F.1 F.2.1 dX12_step_193 (by decide) ?_
                refine lv_icmp_eq (tgt := 222) F.1 F.2.1 dX12_step_195 (by decide) (fun c42 => ?_) (fun c42 => ?_)
                · have h := h.1 c42
                  exact tX12_step_222 l G F hr hlocks Q (wX12_step_227 (wX12_step_246 Q) Q) (tX12_step_227 l G F hr hlocks Q (wX12_step_246 Q) (tX12_step_246 l G F hr hlocks Q)) r29 μ37 H locs ls h C (lv_sub hl [1, 0] rfl)
                · have h := h.2 c42
                  refine lv_iload_n F.1 F.2.1 dX12_step_198 rfl (lv_at hl 0 rfl) ?_
                  refine lv_bipush (v := 42) F.1 F.2.1 dX12_step_199 (by decide) ?_
                  refine lv_icmp_eq (tgt := 222) F.1 F.2.1 dX12_step_201 (by decide) (fun c43 => ?_) (fun c43 => ?_)
                  · have h := h.1 c43
                    exact tX12_step_222 l G F hr hlocks Q (wX12_step_227 (wX12_step_246 Q) Q) (tX12_step_227 l G F hr hlocks Q (wX12_step_246 Q) (tX12_step_246 l G F hr hlocks Q)) r29 μ37 H locs ls h C (lv_sub hl [1, 0] rfl)
                  · have h := h.2 c43
                    refine lv_iload_n F.1 F.2.1 dX12_step_204 rfl (lv_at hl 0 rfl) ?_
                    refine lv_bipush (v := 47) F.1 F.2.1 dX12_step_205 (by decide) ?_
                    refine lv_icmp_eq (tgt := 222) F.1 F.2.1 dX12_step_207 (by decide) (fun c44 => ?_) (fun c44 => ?_)
                    · have h := h.1 c44
                      exact tX12_step_222 l G F hr hlocks Q (wX12_step_227 (wX12_step_246 Q) Q) (tX12_step_227 l G F hr hlocks Q (wX12_step_246 Q) (tX12_step_246 l G F hr hlocks Q)) r29 μ37 H locs ls h C (lv_sub hl [1, 0] rfl)
                    · have h := h.2 c44
                      refine lv_iload_n F.1 F.2.1 dX12_step_210 rfl (lv_at hl 0 rfl) ?_
                      refine lv_bipush (v := 60) F.1 F.2.1 dX12_step_211 (by decide) ?_
                      refine lv_icmp_eq (tgt := 222) F.1 F.2.1 dX12_step_213 (by decide) (fun c45 => ?_) (fun c45 => ?_)
                      · have h := h.1 c45
                        exact tX12_step_222 l G F hr hlocks Q (wX12_step_227 (wX12_step_246 Q) Q) (tX12_step_227 l G F hr hlocks Q (wX12_step_246 Q) (tX12_step_246 l G F hr hlocks Q)) r29 μ37 H locs ls h C (lv_sub hl [1, 0] rfl)
                      · have h := h.2 c45
                        refine lv_iload_n F.1 F.2.1 dX12_step_216 rfl (lv_at hl 0 rfl) ?_
                        refine lv_bipush (v := 61) F.1 F.2.1 dX12_step_217 (by decide) ?_
                        refine lv_icmp_ne (tgt := 226) F.1 F.2.1 dX12_step_219 (by decide) (fun c46 => ?_) (fun c46 => ?_)
                        · have h := h.1 c46
                          refine lv_iconst (v := 0) F.1 F.2.1 dX12_step_226 (by decide) ?_
                          exact tX12_step_227 l G F hr hlocks Q (wX12_step_246 Q) (tX12_step_246 l G F hr hlocks Q) r29 0 μ37 H locs ls h C (lv_sub hl [1, 0] rfl)
                        · have h := h.2 c46
                          exact tX12_step_222 l G F hr hlocks Q (wX12_step_227 (wX12_step_246 Q) Q) (tX12_step_227 l G F hr hlocks Q (wX12_step_246 Q) (tX12_step_246 l G F hr hlocks Q)) r29 μ37 H locs ls h C (lv_sub hl [1, 0] rfl)
      · have h := h.2 c36
        obtain ⟨n47, h⟩ := h
        exact tX12_step_123 l G F hr hlocks Q (wX12_step_150 (wX12_step_246 Q) Q) (tX12_step_150 l G F hr hlocks Q (wX12_step_246 Q) (tX12_step_246 l G F hr hlocks Q)) n47 μ34 H locs ls h C (lv_sub hl [1] rfl)
    · have h := h.2 c33
      obtain ⟨n48, h⟩ := h
      exact tX12_step_81 l G F hr hlocks Q (wX12_step_108 (wX12_step_246 Q) Q) (tX12_step_108 l G F hr hlocks Q (wX12_step_246 Q) (tX12_step_246 l G F hr hlocks Q)) n48 μ31 H locs ls h C (lv_sub hl [1] rfl)
  · have h := h.2 c30
    refine lv_aload_n F.1 F.2.1 dX12_step_66 rfl (lv_at hl 1 rfl) ?_
    refine lv_iconst (v := 0) F.1 F.2.1 dX12_step_67 (by decide) ?_
    refine kp_token F C dX12_step_68 (fun H locs C => ?_)
    generalize eμ49 : km_si μ28 62 0 = μ49 at C
    have h := h μ49 eμ49.symm
    refine lv_goto (tgt := 246) F.1 F.2.1 dX12_step_71 (by decide) ?_
    exact tX12_step_246 l G F hr hlocks Q μ49 H locs ls h C (lv_sub hl [1] rfl)
set_option maxRecDepth 100000 in
set_option maxHeartbeats 4000000 in
theorem hc_X12_step (l : Launch) (G : km_G) (μ : km_S) (Q : km_S → Prop) (h : wX12_step μ Q) : km_M l G yX12_step cX12_step 3 none (1) (21) [.ref (G.1 0)] μ (km_Qv G Q) := by
  refine km_enter (by decide) rfl (Nat.le_of_ble_eq_true rfl) ?_
  intro p e s m below meth c ls F hr hlocks C hl
  have hl : lv_has ls 3 [(0, .ref (G.1 0))] := hl
  obtain ⟨H, eH⟩ : ∃ z9, z9 = s.heap := ⟨_, rfl⟩
  obtain ⟨locs, eL⟩ : ∃ z9 : List Loc, z9 = [] := ⟨_, rfl⟩
  rw [← eH, ← eL] at C
  rw [← eH, ← eL]
  obtain ⟨n50, h⟩ := h
  exact tX12_step_0 l G F hr hlocks Q (wX12_step_39 Q) (tX12_step_39 l G F hr hlocks Q) n50 μ H locs ls h C (lv_sub hl [0] rfl)
section
variable {p : Program} {l : Launch} {e : Env} {R : Room} {s : State} {m : MethodId} {args : Array Value} {below : List Frame} {meth : Method} {c : Code} {H : Heap} {locs : List Loc} {Q : State → Prop}
variable {cc : ByteArray} {pc nL : Nat} {ls : Array Slot} {rest : List Value} {G : km_G} {μ : km_S}
theorem kc_X12_step (F : CallFix p m c cc nL s args kt_ RX12) (C : km_X G s H locs μ) {P : km_S → Prop} (h : wX12_step μ P) (h1 : (1) + 1 ≤ R.frames) (h2 : 8 + (3 + 11) + (21) ≤ R.locals) (hsz : ls.size = nL) (hW : (rest.map fun v => v.category).sum ≤ 8) (hdg : decode cc pc = .ok (.invokevirtual 244, 3)) (kk : ∀ (μ' : km_S) (H1 : Heap) (locs1 : List Loc), P μ' → km_X G s H1 locs1 μ' → W p l e R s m args below meth c H1 locs1 0 0 Q (F0 m (pc + 3) ls rest)) : W p l e R s m args below meth c H locs 0 0 Q (F0 m pc ls (.ref (G.1 0) :: rest)) :=
  km_cVv (n := 0) (As := []) F C (hc_X12_step l G μ P h) (kt_V tw_205 tw_206 tw_207 tw_151 tw_208) (by decide +kernel) ⟨h1, h2⟩ rfl hsz hW hdg kk
end
theorem dX12_value_0 : decode cX12_value 0 = .ok (.iload_n 1, 1) := by decide +kernel
theorem dX12_value_1 : decode cX12_value 1 = .ok (.tableswitch 78 0 5 #[39, 46, 53, 60, 68, 76], 39) := by decide +kernel
theorem dX12_value_40 : decode cX12_value 40 = .ok (.aload_n 0, 1) := by decide +kernel
theorem dX12_value_41 : decode cX12_value 41 = .ok (.getfield 101, 3) := by decide +kernel
theorem dX12_value_44 : decode cX12_value 44 = .ok (.iload_n 2, 1) := by decide +kernel
theorem dX12_value_45 : decode cX12_value 45 = .ok (.iaload, 1) := by decide +kernel
theorem dX12_value_46 : decode cX12_value 46 = .ok (.ireturn, 1) := by decide +kernel
theorem dX12_value_47 : decode cX12_value 47 = .ok (.aload_n 0, 1) := by decide +kernel
theorem dX12_value_48 : decode cX12_value 48 = .ok (.getfield 103, 3) := by decide +kernel
theorem dX12_value_51 : decode cX12_value 51 = .ok (.iload_n 2, 1) := by decide +kernel
theorem dX12_value_52 : decode cX12_value 52 = .ok (.iaload, 1) := by decide +kernel
theorem dX12_value_53 : decode cX12_value 53 = .ok (.ireturn, 1) := by decide +kernel
theorem dX12_value_54 : decode cX12_value 54 = .ok (.aload_n 0, 1) := by decide +kernel
theorem dX12_value_55 : decode cX12_value 55 = .ok (.getfield 105, 3) := by decide +kernel
theorem dX12_value_58 : decode cX12_value 58 = .ok (.iload_n 2, 1) := by decide +kernel
theorem dX12_value_59 : decode cX12_value 59 = .ok (.iaload, 1) := by decide +kernel
theorem dX12_value_60 : decode cX12_value 60 = .ok (.ireturn, 1) := by decide +kernel
theorem dX12_value_61 : decode cX12_value 61 = .ok (.aload_n 0, 1) := by decide +kernel
theorem dX12_value_62 : decode cX12_value 62 = .ok (.getfield 192, 3) := by decide +kernel
theorem dX12_value_65 : decode cX12_value 65 = .ok (.bipush 24, 2) := by decide +kernel
theorem dX12_value_67 : decode cX12_value 67 = .ok (.irem, 1) := by decide +kernel
theorem dX12_value_68 : decode cX12_value 68 = .ok (.ireturn, 1) := by decide +kernel
theorem dX12_value_69 : decode cX12_value 69 = .ok (.aload_n 0, 1) := by decide +kernel
theorem dX12_value_70 : decode cX12_value 70 = .ok (.getfield 192, 3) := by decide +kernel
theorem dX12_value_73 : decode cX12_value 73 = .ok (.bipush 24, 2) := by decide +kernel
theorem dX12_value_75 : decode cX12_value 75 = .ok (.idiv, 1) := by decide +kernel
theorem dX12_value_76 : decode cX12_value 76 = .ok (.ireturn, 1) := by decide +kernel
theorem dX12_value_77 : decode cX12_value 77 = .ok (.iload_n 3, 1) := by decide +kernel
theorem dX12_value_78 : decode cX12_value 78 = .ok (.ireturn, 1) := by decide +kernel
theorem dX12_value_79 : decode cX12_value 79 = .ok (.aload_n 0, 1) := by decide +kernel
theorem dX12_value_80 : decode cX12_value 80 = .ok (.getfield 116, 3) := by decide +kernel
theorem dX12_value_83 : decode cX12_value 83 = .ok (.iload_n 2, 1) := by decide +kernel
theorem dX12_value_84 : decode cX12_value 84 = .ok (.iaload, 1) := by decide +kernel
theorem dX12_value_85 : decode cX12_value 85 = .ok (.ireturn, 1) := by decide +kernel
def wX12_value (l1 : Int32) (l2 : Int32) (l3 : Int32) (μ : km_S) (Q : Int32 → km_S → Prop) : Prop := ∀ v1, v1 = l1 → ((v1 = 0 → vp_in l2 400 ∧ Q (km_a μ 35 l2.toNatClampNeg) μ) ∧
  ((v1 = 1 → vp_in l2 400 ∧ Q (km_a μ 36 l2.toNatClampNeg) μ) ∧
  ((v1 = 2 → vp_in l2 400 ∧ Q (km_a μ 37 l2.toNatClampNeg) μ) ∧
  ((v1 = 3 → Q ((km_i μ 2) - (km_i μ 2) / 24 * 24) μ) ∧
  ((v1 = 4 → Q ((km_i μ 2) / 24) μ) ∧
  ((v1 = 5 → Q l3 μ) ∧
  (¬ v1 = 0 → ¬ v1 = 1 → ¬ v1 = 2 → ¬ v1 = 3 → ¬ v1 = 4 → ¬ v1 = 5 → vp_in l2 400 ∧ Q (km_a μ 41 l2.toNatClampNeg) μ)))))))
set_option maxRecDepth 100000 in
set_option maxHeartbeats 4000000 in
theorem hc_X12_value (l : Launch) (G : km_G) (l1 : Int32) (l2 : Int32) (l3 : Int32) (μ : km_S) (Q : Int32 → km_S → Prop) (h : wX12_value l1 l2 l3 μ Q) : km_M l G yX12_value cX12_value 4 (some .int) (0) (0) [.ref (G.1 0), .int l1, .int l2, .int l3] μ (km_Qi G Q) := by
  refine km_enter (by decide) rfl (Nat.le_of_ble_eq_true rfl) ?_
  intro p e s m below meth c ls F hr hlocks C hl
  have hl : lv_has ls 4 [(0, .ref (G.1 0)), (1, .int l1), (2, .int l2), (3, .int l3)] := hl
  obtain ⟨H, eH⟩ : ∃ z9, z9 = s.heap := ⟨_, rfl⟩
  obtain ⟨locs, eL⟩ : ∃ z9 : List Loc, z9 = [] := ⟨_, rfl⟩
  rw [← eH, ← eL] at C
  rw [← eH, ← eL]
  refine lv_iload_n F.1 F.2.1 dX12_value_0 rfl (lv_at hl 1 rfl) ?_
  refine lv_topi (fun v1 ev1 => ?_)
  have h := h v1 ev1
  by_cases c2 : v1 = 0
  · have h := h.1 c2
    refine lv_tableIn (off := 39) (tgt := 40) F.1 F.2.1 dX12_value_1 (by rw [c2]; decide) (by rw [c2]; decide) (by rw [c2]; decide) (by decide) ?_
    refine lv_aload_n F.1 F.2.1 dX12_value_40 rfl (lv_at hl 0 rfl) ?_
    refine kg_mark F C dX12_value_41 ?_
    refine lv_iload_n F.1 F.2.1 dX12_value_44 rfl (lv_at hl 2 rfl) ?_
    obtain ⟨hn3, h⟩ := h
    refine kl_mark F C hn3 dX12_value_45 ?_
    exact km_iret F C hr hlocks h dX12_value_46
  have h := h.2
  by_cases c4 : v1 = 1
  · have h := h.1 c4
    refine lv_tableIn (off := 46) (tgt := 47) F.1 F.2.1 dX12_value_1 (by rw [c4]; decide) (by rw [c4]; decide) (by rw [c4]; decide) (by decide) ?_
    refine lv_aload_n F.1 F.2.1 dX12_value_47 rfl (lv_at hl 0 rfl) ?_
    refine kg_size F C dX12_value_48 ?_
    refine lv_iload_n F.1 F.2.1 dX12_value_51 rfl (lv_at hl 2 rfl) ?_
    obtain ⟨hn5, h⟩ := h
    refine kl_size F C hn5 dX12_value_52 ?_
    exact km_iret F C hr hlocks h dX12_value_53
  have h := h.2
  by_cases c6 : v1 = 2
  · have h := h.1 c6
    refine lv_tableIn (off := 53) (tgt := 54) F.1 F.2.1 dX12_value_1 (by rw [c6]; decide) (by rw [c6]; decide) (by rw [c6]; decide) (by decide) ?_
    refine lv_aload_n F.1 F.2.1 dX12_value_54 rfl (lv_at hl 0 rfl) ?_
    refine kg_stump F C dX12_value_55 ?_
    refine lv_iload_n F.1 F.2.1 dX12_value_58 rfl (lv_at hl 2 rfl) ?_
    obtain ⟨hn7, h⟩ := h
    refine kl_stump F C hn7 dX12_value_59 ?_
    exact km_iret F C hr hlocks h dX12_value_60
  have h := h.2
  by_cases c8 : v1 = 3
  · have h := h.1 c8
    refine lv_tableIn (off := 60) (tgt := 61) F.1 F.2.1 dX12_value_1 (by rw [c8]; decide) (by rw [c8]; decide) (by rw [c8]; decide) (by decide) ?_
    refine lv_aload_n F.1 F.2.1 dX12_value_61 rfl (lv_at hl 0 rfl) ?_
    refine kg_now F C dX12_value_62 ?_
    refine lv_bipush (v := 24) F.1 F.2.1 dX12_value_65 (by decide) ?_
    refine lv_irem (x := km_i μ 2) (y := 24) F.1 F.2.1 dX12_value_67 (by decide) ?_
    exact km_iret F C hr hlocks h dX12_value_68
  have h := h.2
  by_cases c9 : v1 = 4
  · have h := h.1 c9
    refine lv_tableIn (off := 68) (tgt := 69) F.1 F.2.1 dX12_value_1 (by rw [c9]; decide) (by rw [c9]; decide) (by rw [c9]; decide) (by decide) ?_
    refine lv_aload_n F.1 F.2.1 dX12_value_69 rfl (lv_at hl 0 rfl) ?_
    refine kg_now F C dX12_value_70 ?_
    refine lv_bipush (v := 24) F.1 F.2.1 dX12_value_73 (by decide) ?_
    refine lv_idiv (x := km_i μ 2) (y := 24) F.1 F.2.1 dX12_value_75 (by decide) ?_
    exact km_iret F C hr hlocks h dX12_value_76
  have h := h.2
  by_cases c10 : v1 = 5
  · have h := h.1 c10
    refine lv_tableIn (off := 76) (tgt := 77) F.1 F.2.1 dX12_value_1 (by rw [c10]; decide) (by rw [c10]; decide) (by rw [c10]; decide) (by decide) ?_
    refine lv_iload_n F.1 F.2.1 dX12_value_77 rfl (lv_at hl 3 rfl) ?_
    exact km_iret F C hr hlocks h dX12_value_78
  have h := h.2
  have ic2 : v1.toInt ≠ 0 := fun h9 => c2 (Int32.toInt_inj.mp (h9.trans (by decide)))
  have ic4 : v1.toInt ≠ 1 := fun h9 => c4 (Int32.toInt_inj.mp (h9.trans (by decide)))
  have ic6 : v1.toInt ≠ 2 := fun h9 => c6 (Int32.toInt_inj.mp (h9.trans (by decide)))
  have ic8 : v1.toInt ≠ 3 := fun h9 => c8 (Int32.toInt_inj.mp (h9.trans (by decide)))
  have ic9 : v1.toInt ≠ 4 := fun h9 => c9 (Int32.toInt_inj.mp (h9.trans (by decide)))
  have ic10 : v1.toInt ≠ 5 := fun h9 => c10 (Int32.toInt_inj.mp (h9.trans (by decide)))
  have h := h c2 c4 c6 c8 c9 c10
  refine lv_tableOut (tgt := 79) F.1 F.2.1 dX12_value_1 (by omega) (by decide) ?_
  refine lv_aload_n F.1 F.2.1 dX12_value_79 rfl (lv_at hl 0 rfl) ?_
  refine kg_age F C dX12_value_80 ?_
  refine lv_iload_n F.1 F.2.1 dX12_value_83 rfl (lv_at hl 2 rfl) ?_
  obtain ⟨hn11, h⟩ := h
  refine kl_age F C hn11 dX12_value_84 ?_
  exact km_iret F C hr hlocks h dX12_value_85
section
variable {p : Program} {l : Launch} {e : Env} {R : Room} {s : State} {m : MethodId} {args : Array Value} {below : List Frame} {meth : Method} {c : Code} {H : Heap} {locs : List Loc} {Q : State → Prop}
variable {cc : ByteArray} {pc nL : Nat} {ls : Array Slot} {rest : List Value} {G : km_G} {μ : km_S}
theorem kc_X12_value (F : CallFix p m c cc nL s args kt_ RX12) (C : km_X G s H locs μ) {P : Int32 → km_S → Prop} {l1 : Int32} {l2 : Int32} {l3 : Int32} (h : wX12_value l1 l2 l3 μ P) (h1 : (0) + 1 ≤ R.frames) (h2 : 8 + (4 + 11) + (0) ≤ R.locals) (hsz : ls.size = nL) (hW : (rest.map fun v => v.category).sum ≤ 8) (hdg : decode cc pc = .ok (.invokevirtual 292, 3)) (kk : ∀ (r : Int32) (μ' : km_S) (H1 : Heap) (locs1 : List Loc), P r μ' → km_X G s H1 locs1 μ' → W p l e R s m args below meth c H1 locs1 0 0 Q (F0 m (pc + 3) ls (.int r :: rest))) : W p l e R s m args below meth c H locs 0 0 Q (F0 m pc ls (.int l3 :: .int l2 :: .int l1 :: .ref (G.1 0) :: rest)) :=
  km_cVi (n := 3) (As := [.int l1, .int l2, .int l3]) F C (hc_X12_value l G l1 l2 l3 μ P h) (kt_V tw_209 tw_210 tw_211 tw_151 tw_212) (by decide +kernel) ⟨h1, h2⟩ rfl hsz hW hdg kk
end
theorem dX12_two_0 : decode cX12_two 0 = .ok (.iload_n 0, 1) := by decide +kernel
theorem dX12_two_1 : decode cX12_two 1 = .ok (.tableswitch 113 1 7 #[43, 47, 51, 55, 77, 88, 99], 43) := by decide +kernel
theorem dX12_two_44 : decode cX12_two 44 = .ok (.iload_n 1, 1) := by decide +kernel
theorem dX12_two_45 : decode cX12_two 45 = .ok (.iload_n 2, 1) := by decide +kernel
theorem dX12_two_46 : decode cX12_two 46 = .ok (.iadd, 1) := by decide +kernel
theorem dX12_two_47 : decode cX12_two 47 = .ok (.ireturn, 1) := by decide +kernel
theorem dX12_two_48 : decode cX12_two 48 = .ok (.iload_n 1, 1) := by decide +kernel
theorem dX12_two_49 : decode cX12_two 49 = .ok (.iload_n 2, 1) := by decide +kernel
theorem dX12_two_50 : decode cX12_two 50 = .ok (.isub, 1) := by decide +kernel
theorem dX12_two_51 : decode cX12_two 51 = .ok (.ireturn, 1) := by decide +kernel
theorem dX12_two_52 : decode cX12_two 52 = .ok (.iload_n 1, 1) := by decide +kernel
theorem dX12_two_53 : decode cX12_two 53 = .ok (.iload_n 2, 1) := by decide +kernel
theorem dX12_two_54 : decode cX12_two 54 = .ok (.imul, 1) := by decide +kernel
theorem dX12_two_55 : decode cX12_two 55 = .ok (.ireturn, 1) := by decide +kernel
theorem dX12_two_56 : decode cX12_two 56 = .ok (.iload_n 2, 1) := by decide +kernel
theorem dX12_two_57 : decode cX12_two 57 = .ok (.ifCond .ne 7, 3) := by decide +kernel
theorem dX12_two_60 : decode cX12_two 60 = .ok (.iconst 0, 1) := by decide +kernel
theorem dX12_two_61 : decode cX12_two 61 = .ok (.goto 16, 3) := by decide +kernel
theorem dX12_two_64 : decode cX12_two 64 = .ok (.iload_n 2, 1) := by decide +kernel
theorem dX12_two_65 : decode cX12_two 65 = .ok (.iconst (-1), 1) := by decide +kernel
theorem dX12_two_66 : decode cX12_two 66 = .ok (.if_icmp .ne 8, 3) := by decide +kernel
theorem dX12_two_69 : decode cX12_two 69 = .ok (.iload_n 1, 1) := by decide +kernel
theorem dX12_two_70 : decode cX12_two 70 = .ok (.ineg, 1) := by decide +kernel
theorem dX12_two_71 : decode cX12_two 71 = .ok (.goto 6, 3) := by decide +kernel
theorem dX12_two_74 : decode cX12_two 74 = .ok (.iload_n 1, 1) := by decide +kernel
theorem dX12_two_75 : decode cX12_two 75 = .ok (.iload_n 2, 1) := by decide +kernel
theorem dX12_two_76 : decode cX12_two 76 = .ok (.idiv, 1) := by decide +kernel
theorem dX12_two_77 : decode cX12_two 77 = .ok (.ireturn, 1) := by decide +kernel
theorem dX12_two_78 : decode cX12_two 78 = .ok (.iload_n 1, 1) := by decide +kernel
theorem dX12_two_79 : decode cX12_two 79 = .ok (.iload_n 2, 1) := by decide +kernel
theorem dX12_two_80 : decode cX12_two 80 = .ok (.if_icmp .ge 7, 3) := by decide +kernel
theorem dX12_two_83 : decode cX12_two 83 = .ok (.iconst 1, 1) := by decide +kernel
theorem dX12_two_84 : decode cX12_two 84 = .ok (.goto 4, 3) := by decide +kernel
theorem dX12_two_87 : decode cX12_two 87 = .ok (.iconst 0, 1) := by decide +kernel
theorem dX12_two_88 : decode cX12_two 88 = .ok (.ireturn, 1) := by decide +kernel
theorem dX12_two_89 : decode cX12_two 89 = .ok (.iload_n 1, 1) := by decide +kernel
theorem dX12_two_90 : decode cX12_two 90 = .ok (.iload_n 2, 1) := by decide +kernel
theorem dX12_two_91 : decode cX12_two 91 = .ok (.if_icmp .ne 7, 3) := by decide +kernel
theorem dX12_two_94 : decode cX12_two 94 = .ok (.iconst 1, 1) := by decide +kernel
theorem dX12_two_95 : decode cX12_two 95 = .ok (.goto 4, 3) := by decide +kernel
theorem dX12_two_98 : decode cX12_two 98 = .ok (.iconst 0, 1) := by decide +kernel
theorem dX12_two_99 : decode cX12_two 99 = .ok (.ireturn, 1) := by decide +kernel
theorem dX12_two_100 : decode cX12_two 100 = .ok (.iload_n 1, 1) := by decide +kernel
theorem dX12_two_101 : decode cX12_two 101 = .ok (.ifCond .eq 11, 3) := by decide +kernel
theorem dX12_two_104 : decode cX12_two 104 = .ok (.iload_n 2, 1) := by decide +kernel
theorem dX12_two_105 : decode cX12_two 105 = .ok (.ifCond .eq 7, 3) := by decide +kernel
theorem dX12_two_108 : decode cX12_two 108 = .ok (.iconst 1, 1) := by decide +kernel
theorem dX12_two_109 : decode cX12_two 109 = .ok (.goto 4, 3) := by decide +kernel
theorem dX12_two_112 : decode cX12_two 112 = .ok (.iconst 0, 1) := by decide +kernel
theorem dX12_two_113 : decode cX12_two 113 = .ok (.ireturn, 1) := by decide +kernel
theorem dX12_two_114 : decode cX12_two 114 = .ok (.iload_n 1, 1) := by decide +kernel
theorem dX12_two_115 : decode cX12_two 115 = .ok (.ifCond .ne 7, 3) := by decide +kernel
theorem dX12_two_118 : decode cX12_two 118 = .ok (.iload_n 2, 1) := by decide +kernel
theorem dX12_two_119 : decode cX12_two 119 = .ok (.ifCond .eq 7, 3) := by decide +kernel
theorem dX12_two_122 : decode cX12_two 122 = .ok (.iconst 1, 1) := by decide +kernel
theorem dX12_two_123 : decode cX12_two 123 = .ok (.goto 4, 3) := by decide +kernel
theorem dX12_two_126 : decode cX12_two 126 = .ok (.iconst 0, 1) := by decide +kernel
theorem dX12_two_127 : decode cX12_two 127 = .ok (.ireturn, 1) := by decide +kernel
def wX12_two (l0 : Int32) (l1 : Int32) (l2 : Int32) (μ : km_S) (Q : Int32 → km_S → Prop) : Prop := ∀ v1, v1 = l0 → ((v1 = 1 → Q (l1 + l2) μ) ∧
  ((v1 = 2 → Q (l1 - l2) μ) ∧
  ((v1 = 3 → Q (l1 * l2) μ) ∧
  ((v1 = 4 → ((¬ l2 = 0 → ((¬ l2 = (-1) → ¬ l2 = 0 ∧ Q (l1 / l2) μ) ∧
      (l2 = (-1) → Q (-l1) μ))) ∧
    (l2 = 0 → Q 0 μ))) ∧
  ((v1 = 5 → ((l2 ≤ l1 → Q 0 μ) ∧
    (¬ (l2 ≤ l1) → Q 1 μ))) ∧
  ((v1 = 6 → ((¬ l1 = l2 → Q 0 μ) ∧
    (l1 = l2 → Q 1 μ))) ∧
  ((v1 = 7 → ((l1 = 0 → Q 0 μ) ∧
    (¬ (l1 = 0) → ((l2 = 0 → Q 0 μ) ∧
      (¬ (l2 = 0) → Q 1 μ))))) ∧
  (¬ v1 = 1 → ¬ v1 = 2 → ¬ v1 = 3 → ¬ v1 = 4 → ¬ v1 = 5 → ¬ v1 = 6 → ¬ v1 = 7 → ((¬ l1 = 0 → Q 1 μ) ∧
  (l1 = 0 → ((l2 = 0 → Q 0 μ) ∧
    (¬ (l2 = 0) → Q 1 μ))))))))))))
set_option maxRecDepth 100000 in
set_option maxHeartbeats 4000000 in
theorem hc_X12_two (l : Launch) (G : km_G) (l0 : Int32) (l1 : Int32) (l2 : Int32) (μ : km_S) (Q : Int32 → km_S → Prop) (h : wX12_two l0 l1 l2 μ Q) : km_M l G yX12_two cX12_two 3 (some .int) (0) (0) [.int l0, .int l1, .int l2] μ (km_Qi G Q) := by
  refine km_enter (by decide) rfl (Nat.le_of_ble_eq_true rfl) ?_
  intro p e s m below meth c ls F hr hlocks C hl
  have hl : lv_has ls 3 [(0, .int l0), (1, .int l1), (2, .int l2)] := hl
  obtain ⟨H, eH⟩ : ∃ z9, z9 = s.heap := ⟨_, rfl⟩
  obtain ⟨locs, eL⟩ : ∃ z9 : List Loc, z9 = [] := ⟨_, rfl⟩
  rw [← eH, ← eL] at C
  rw [← eH, ← eL]
  refine lv_iload_n F.1 F.2.1 dX12_two_0 rfl (lv_at hl 0 rfl) ?_
  refine lv_topi (fun v1 ev1 => ?_)
  have h := h v1 ev1
  by_cases c2 : v1 = 1
  · have h := h.1 c2
    refine lv_tableIn (off := 43) (tgt := 44) F.1 F.2.1 dX12_two_1 (by rw [c2]; decide) (by rw [c2]; decide) (by rw [c2]; decide) (by decide) ?_
    refine lv_iload_n F.1 F.2.1 dX12_two_44 rfl (lv_at hl 1 rfl) ?_
    refine lv_iload_n F.1 F.2.1 dX12_two_45 rfl (lv_at hl 2 rfl) ?_
    refine lv_iadd (x := l1) (y := l2) F.1 F.2.1 dX12_two_46 ?_
    exact km_iret F C hr hlocks h dX12_two_47
  have h := h.2
  by_cases c3 : v1 = 2
  · have h := h.1 c3
    refine lv_tableIn (off := 47) (tgt := 48) F.1 F.2.1 dX12_two_1 (by rw [c3]; decide) (by rw [c3]; decide) (by rw [c3]; decide) (by decide) ?_
    refine lv_iload_n F.1 F.2.1 dX12_two_48 rfl (lv_at hl 1 rfl) ?_
    refine lv_iload_n F.1 F.2.1 dX12_two_49 rfl (lv_at hl 2 rfl) ?_
    refine lv_isub (x := l1) (y := l2) F.1 F.2.1 dX12_two_50 ?_
    exact km_iret F C hr hlocks h dX12_two_51
  have h := h.2
  by_cases c4 : v1 = 3
  · have h := h.1 c4
    refine lv_tableIn (off := 51) (tgt := 52) F.1 F.2.1 dX12_two_1 (by rw [c4]; decide) (by rw [c4]; decide) (by rw [c4]; decide) (by decide) ?_
    refine lv_iload_n F.1 F.2.1 dX12_two_52 rfl (lv_at hl 1 rfl) ?_
    refine lv_iload_n F.1 F.2.1 dX12_two_53 rfl (lv_at hl 2 rfl) ?_
    refine lv_imul (x := l1) (y := l2) F.1 F.2.1 dX12_two_54 ?_
    exact km_iret F C hr hlocks h dX12_two_55
  have h := h.2
  by_cases c5 : v1 = 4
  · have h := h.1 c5
    refine lv_tableIn (off := 55) (tgt := 56) F.1 F.2.1 dX12_two_1 (by rw [c5]; decide) (by rw [c5]; decide) (by rw [c5]; decide) (by decide) ?_
    refine lv_iload_n F.1 F.2.1 dX12_two_56 rfl (lv_at hl 2 rfl) ?_
    refine lv_if_ne (tgt := 64) F.1 F.2.1 dX12_two_57 (by decide) (fun c6 => ?_) (fun c6 => ?_)
    · have h := h.1 c6
      refine lv_iload_n F.1 F.2.1 dX12_two_64 rfl (lv_at hl 2 rfl) ?_
      refine lv_iconst (v := (-1)) F.1 F.2.1 dX12_two_65 (by decide) ?_
      refine lv_icmp_ne (tgt := 74) F.1 F.2.1 dX12_two_66 (by decide) (fun c7 => ?_) (fun c7 => ?_)
      · have h := h.1 c7
        refine lv_iload_n F.1 F.2.1 dX12_two_74 rfl (lv_at hl 1 rfl) ?_
        refine lv_iload_n F.1 F.2.1 dX12_two_75 rfl (lv_at hl 2 rfl) ?_
        obtain ⟨hn8, h⟩ := h
        refine lv_idiv (x := l1) (y := l2) F.1 F.2.1 dX12_two_76 hn8 ?_
        exact km_iret F C hr hlocks h dX12_two_77
      · have h := h.2 c7
        refine lv_iload_n F.1 F.2.1 dX12_two_69 rfl (lv_at hl 1 rfl) ?_
        refine lv_ineg F.1 F.2.1 dX12_two_70 ?_
        refine lv_goto (tgt := 77) F.1 F.2.1 dX12_two_71 (by decide) ?_
        exact km_iret F C hr hlocks h dX12_two_77
    · have h := h.2 c6
      refine lv_iconst (v := 0) F.1 F.2.1 dX12_two_60 (by decide) ?_
      refine lv_goto (tgt := 77) F.1 F.2.1 dX12_two_61 (by decide) ?_
      exact km_iret F C hr hlocks h dX12_two_77
  have h := h.2
  by_cases c9 : v1 = 5
  · have h := h.1 c9
    refine lv_tableIn (off := 77) (tgt := 78) F.1 F.2.1 dX12_two_1 (by rw [c9]; decide) (by rw [c9]; decide) (by rw [c9]; decide) (by decide) ?_
    refine lv_iload_n F.1 F.2.1 dX12_two_78 rfl (lv_at hl 1 rfl) ?_
    refine lv_iload_n F.1 F.2.1 dX12_two_79 rfl (lv_at hl 2 rfl) ?_
    refine lv_icmp_ge (tgt := 87) F.1 F.2.1 dX12_two_80 (by decide) (fun c10 => ?_) (fun c10 => ?_)
    · have h := h.1 c10
      refine lv_iconst (v := 0) F.1 F.2.1 dX12_two_87 (by decide) ?_
      exact km_iret F C hr hlocks h dX12_two_88
    · have h := h.2 c10
      refine lv_iconst (v := 1) F.1 F.2.1 dX12_two_83 (by decide) ?_
      refine lv_goto (tgt := 88) F.1 F.2.1 dX12_two_84 (by decide) ?_
      exact km_iret F C hr hlocks h dX12_two_88
  have h := h.2
  by_cases c11 : v1 = 6
  · have h := h.1 c11
    refine lv_tableIn (off := 88) (tgt := 89) F.1 F.2.1 dX12_two_1 (by rw [c11]; decide) (by rw [c11]; decide) (by rw [c11]; decide) (by decide) ?_
    refine lv_iload_n F.1 F.2.1 dX12_two_89 rfl (lv_at hl 1 rfl) ?_
    refine lv_iload_n F.1 F.2.1 dX12_two_90 rfl (lv_at hl 2 rfl) ?_
    refine lv_icmp_ne (tgt := 98) F.1 F.2.1 dX12_two_91 (by decide) (fun c12 => ?_) (fun c12 => ?_)
    · have h := h.1 c12
      refine lv_iconst (v := 0) F.1 F.2.1 dX12_two_98 (by decide) ?_
      exact km_iret F C hr hlocks h dX12_two_99
    · have h := h.2 c12
      refine lv_iconst (v := 1) F.1 F.2.1 dX12_two_94 (by decide) ?_
      refine lv_goto (tgt := 99) F.1 F.2.1 dX12_two_95 (by decide) ?_
      exact km_iret F C hr hlocks h dX12_two_99
  have h := h.2
  by_cases c13 : v1 = 7
  · have h := h.1 c13
    refine lv_tableIn (off := 99) (tgt := 100) F.1 F.2.1 dX12_two_1 (by rw [c13]; decide) (by rw [c13]; decide) (by rw [c13]; decide) (by decide) ?_
    refine lv_iload_n F.1 F.2.1 dX12_two_100 rfl (lv_at hl 1 rfl) ?_
    refine lv_if_eq (tgt := 112) F.1 F.2.1 dX12_two_101 (by decide) (fun c14 => ?_) (fun c14 => ?_)
    · have h := h.1 c14
      refine lv_iconst (v := 0) F.1 F.2.1 dX12_two_112 (by decide) ?_
      exact km_iret F C hr hlocks h dX12_two_113
    · have h := h.2 c14
      refine lv_iload_n F.1 F.2.1 dX12_two_104 rfl (lv_at hl 2 rfl) ?_
      refine lv_if_eq (tgt := 112) F.1 F.2.1 dX12_two_105 (by decide) (fun c15 => ?_) (fun c15 => ?_)
      · have h := h.1 c15
        refine lv_iconst (v := 0) F.1 F.2.1 dX12_two_112 (by decide) ?_
        exact km_iret F C hr hlocks h dX12_two_113
      · have h := h.2 c15
        refine lv_iconst (v := 1) F.1 F.2.1 dX12_two_108 (by decide) ?_
        refine lv_goto (tgt := 113) F.1 F.2.1 dX12_two_109 (by decide) ?_
        exact km_iret F C hr hlocks h dX12_two_113
  have h := h.2
  have ic2 : v1.toInt ≠ 1 := fun h9 => c2 (Int32.toInt_inj.mp (h9.trans (by decide)))
  have ic3 : v1.toInt ≠ 2 := fun h9 => c3 (Int32.toInt_inj.mp (h9.trans (by decide)))
  have ic4 : v1.toInt ≠ 3 := fun h9 => c4 (Int32.toInt_inj.mp (h9.trans (by decide)))
  have ic5 : v1.toInt ≠ 4 := fun h9 => c5 (Int32.toInt_inj.mp (h9.trans (by decide)))
  have ic9 : v1.toInt ≠ 5 := fun h9 => c9 (Int32.toInt_inj.mp (h9.trans (by decide)))
  have ic11 : v1.toInt ≠ 6 := fun h9 => c11 (Int32.toInt_inj.mp (h9.trans (by decide)))
  have ic13 : v1.toInt ≠ 7 := fun h9 => c13 (Int32.toInt_inj.mp (h9.trans (by decide)))
  have h := h c2 c3 c4 c5 c9 c11 c13
  refine lv_tableOut (tgt := 114) F.1 F.2.1 dX12_two_1 (by omega) (by decide) ?_
  refine lv_iload_n F.1 F.2.1 dX12_two_114 rfl (lv_at hl 1 rfl) ?_
  refine lv_if_ne (tgt := 122) F.1 F.2.1 dX12_two_115 (by decide) (fun c16 => ?_) (fun c16 => ?_)
  · have h := h.1 c16
    refine lv_iconst (v := 1) F.1 F.2.1 dX12_two_122 (by decide) ?_
    refine lv_goto (tgt := 127) F.1 F.2.1 dX12_two_123 (by decide) ?_
    exact km_iret F C hr hlocks h dX12_two_127
  · have h := h.2 c16
    refine lv_iload_n F.1 F.2.1 dX12_two_118 rfl (lv_at hl 2 rfl) ?_
    refine lv_if_eq (tgt := 126) F.1 F.2.1 dX12_two_119 (by decide) (fun c17 => ?_) (fun c17 => ?_)
    · have h := h.1 c17
      refine lv_iconst (v := 0) F.1 F.2.1 dX12_two_126 (by decide) ?_
      exact km_iret F C hr hlocks h dX12_two_127
    · have h := h.2 c17
      refine lv_iconst (v := 1) F.1 F.2.1 dX12_two_122 (by decide) ?_
      refine lv_goto (tgt := 127) F.1 F.2.1 dX12_two_123 (by decide) ?_
      exact km_iret F C hr hlocks h dX12_two_127
section
variable {p : Program} {l : Launch} {e : Env} {R : Room} {s : State} {m : MethodId} {args : Array Value} {below : List Frame} {meth : Method} {c : Code} {H : Heap} {locs : List Loc} {Q : State → Prop}
variable {cc : ByteArray} {pc nL : Nat} {ls : Array Slot} {rest : List Value} {G : km_G} {μ : km_S}
theorem kc_X12_two (F : CallFix p m c cc nL s args kt_ RX12) (C : km_X G s H locs μ) {P : Int32 → km_S → Prop} {l0 : Int32} {l1 : Int32} {l2 : Int32} (h : wX12_two l0 l1 l2 μ P) (h1 : (0) + 1 ≤ R.frames) (h2 : 8 + (3 + 11) + (0) ≤ R.locals) (hsz : ls.size = nL) (hW : (rest.map fun v => v.category).sum ≤ 8) (hdg : decode cc pc = .ok (.invokestatic 296, 3)) (kk : ∀ (r : Int32) (μ' : km_S) (H1 : Heap) (locs1 : List Loc), P r μ' → km_X G s H1 locs1 μ' → W p l e R s m args below meth c H1 locs1 0 0 Q (F0 m (pc + 3) ls (.int r :: rest))) : W p l e R s m args below meth c H locs 0 0 Q (F0 m pc ls (.int l2 :: .int l1 :: .int l0 :: rest)) :=
  km_cSi (n := 3) (As := [.int l0, .int l1, .int l2]) F C (hc_X12_two l G l0 l1 l2 μ P h) (kt_S tw_213 tw_214 tw_151 tw_215) (by decide +kernel) ⟨h1, h2⟩ rfl hsz hW hdg kk
end
theorem dX12_told_0 : decode cX12_told 0 = .ok (.aload_n 0, 1) := by decide +kernel
theorem dX12_told_1 : decode cX12_told 1 = .ok (.iconst 0, 1) := by decide +kernel
theorem dX12_told_2 : decode cX12_told 2 = .ok (.putfield 289, 3) := by decide +kernel
theorem dX12_told_5 : decode cX12_told 5 = .ok (.iload_n 1, 1) := by decide +kernel
theorem dX12_told_6 : decode cX12_told 6 = .ok (.istore 5, 2) := by decide +kernel
theorem dX12_told_8 : decode cX12_told 8 = .ok (.iload 5, 2) := by decide +kernel
theorem dX12_told_10 : decode cX12_told 10 = .ok (.iload_n 2, 1) := by decide +kernel
theorem dX12_told_11 : decode cX12_told 11 = .ok (.if_icmp .ge 182, 3) := by decide +kernel
theorem dX12_told_14 : decode cX12_told 14 = .ok (.aload_n 0, 1) := by decide +kernel
theorem dX12_told_15 : decode cX12_told 15 = .ok (.getfield 161, 3) := by decide +kernel
theorem dX12_told_18 : decode cX12_told 18 = .ok (.iload 5, 2) := by decide +kernel
theorem dX12_told_20 : decode cX12_told 20 = .ok (.iaload, 1) := by decide +kernel
theorem dX12_told_21 : decode cX12_told 21 = .ok (.istore 6, 2) := by decide +kernel
theorem dX12_told_23 : decode cX12_told 23 = .ok (.iload 6, 2) := by decide +kernel
theorem dX12_told_25 : decode cX12_told 25 = .ok (.ifCond .ne 35, 3) := by decide +kernel
theorem dX12_told_28 : decode cX12_told 28 = .ok (.iinc 5 1, 3) := by decide +kernel
theorem dX12_told_31 : decode cX12_told 31 = .ok (.aload_n 0, 1) := by decide +kernel
theorem dX12_told_32 : decode cX12_told 32 = .ok (.getfield 164, 3) := by decide +kernel
theorem dX12_told_35 : decode cX12_told 35 = .ok (.aload_n 0, 1) := by decide +kernel
theorem dX12_told_36 : decode cX12_told 36 = .ok (.getfield 289, 3) := by decide +kernel
theorem dX12_told_39 : decode cX12_told 39 = .ok (.aload_n 0, 1) := by decide +kernel
theorem dX12_told_40 : decode cX12_told 40 = .ok (.getfield 161, 3) := by decide +kernel
theorem dX12_told_43 : decode cX12_told 43 = .ok (.iload 5, 2) := by decide +kernel
theorem dX12_told_45 : decode cX12_told 45 = .ok (.iaload, 1) := by decide +kernel
theorem dX12_told_46 : decode cX12_told 46 = .ok (.iastore, 1) := by decide +kernel
theorem dX12_told_47 : decode cX12_told 47 = .ok (.aload_n 0, 1) := by decide +kernel
theorem dX12_told_48 : decode cX12_told 48 = .ok (.dup, 1) := by decide +kernel
theorem dX12_told_49 : decode cX12_told 49 = .ok (.getfield 289, 3) := by decide +kernel
theorem dX12_told_52 : decode cX12_told 52 = .ok (.iconst 1, 1) := by decide +kernel
theorem dX12_told_53 : decode cX12_told 53 = .ok (.iadd, 1) := by decide +kernel
theorem dX12_told_54 : decode cX12_told 54 = .ok (.putfield 289, 3) := by decide +kernel
theorem dX12_told_57 : decode cX12_told 57 = .ok (.goto 130, 3) := by decide +kernel
theorem dX12_told_60 : decode cX12_told 60 = .ok (.iload 6, 2) := by decide +kernel
theorem dX12_told_62 : decode cX12_told 62 = .ok (.bipush 20, 2) := by decide +kernel
theorem dX12_told_64 : decode cX12_told 64 = .ok (.if_icmp .lt 37, 3) := by decide +kernel
theorem dX12_told_67 : decode cX12_told 67 = .ok (.aload_n 0, 1) := by decide +kernel
theorem dX12_told_68 : decode cX12_told 68 = .ok (.getfield 164, 3) := by decide +kernel
theorem dX12_told_71 : decode cX12_told 71 = .ok (.aload_n 0, 1) := by decide +kernel
theorem dX12_told_72 : decode cX12_told 72 = .ok (.getfield 289, 3) := by decide +kernel
theorem dX12_told_75 : decode cX12_told 75 = .ok (.aload_n 0, 1) := by decide +kernel
theorem dX12_told_76 : decode cX12_told 76 = .ok (.iload 6, 2) := by decide +kernel
theorem dX12_told_78 : decode cX12_told 78 = .ok (.bipush 20, 2) := by decide +kernel
theorem dX12_told_80 : decode cX12_told 80 = .ok (.isub, 1) := by decide +kernel
theorem dX12_told_81 : decode cX12_told 81 = .ok (.iload_n 3, 1) := by decide +kernel
theorem dX12_told_82 : decode cX12_told 82 = .ok (.iload 4, 2) := by decide +kernel
theorem dX12_told_84 : decode cX12_told 84 = .ok (.invokevirtual 292, 3) := by decide +kernel
theorem dX12_told_87 : decode cX12_told 87 = .ok (.iastore, 1) := by decide +kernel
theorem dX12_told_88 : decode cX12_told 88 = .ok (.aload_n 0, 1) := by decide +kernel
theorem dX12_told_89 : decode cX12_told 89 = .ok (.dup, 1) := by decide +kernel
theorem dX12_told_90 : decode cX12_told 90 = .ok (.getfield 289, 3) := by decide +kernel
theorem dX12_told_93 : decode cX12_told 93 = .ok (.iconst 1, 1) := by decide +kernel
theorem dX12_told_94 : decode cX12_told 94 = .ok (.iadd, 1) := by decide +kernel
theorem dX12_told_95 : decode cX12_told 95 = .ok (.putfield 289, 3) := by decide +kernel
theorem dX12_told_98 : decode cX12_told 98 = .ok (.goto 89, 3) := by decide +kernel
theorem dX12_told_101 : decode cX12_told 101 = .ok (.iload 6, 2) := by decide +kernel
theorem dX12_told_103 : decode cX12_told 103 = .ok (.bipush 9, 2) := by decide +kernel
theorem dX12_told_105 : decode cX12_told 105 = .ok (.if_icmp .ne 36, 3) := by decide +kernel
theorem dX12_told_108 : decode cX12_told 108 = .ok (.aload_n 0, 1) := by decide +kernel
theorem dX12_told_109 : decode cX12_told 109 = .ok (.getfield 164, 3) := by decide +kernel
theorem dX12_told_112 : decode cX12_told 112 = .ok (.aload_n 0, 1) := by decide +kernel
theorem dX12_told_113 : decode cX12_told 113 = .ok (.getfield 289, 3) := by decide +kernel
theorem dX12_told_116 : decode cX12_told 116 = .ok (.iconst 1, 1) := by decide +kernel
theorem dX12_told_117 : decode cX12_told 117 = .ok (.isub, 1) := by decide +kernel
theorem dX12_told_118 : decode cX12_told 118 = .ok (.aload_n 0, 1) := by decide +kernel
theorem dX12_told_119 : decode cX12_told 119 = .ok (.getfield 164, 3) := by decide +kernel
theorem dX12_told_122 : decode cX12_told 122 = .ok (.aload_n 0, 1) := by decide +kernel
theorem dX12_told_123 : decode cX12_told 123 = .ok (.getfield 289, 3) := by decide +kernel
theorem dX12_told_126 : decode cX12_told 126 = .ok (.iconst 1, 1) := by decide +kernel
theorem dX12_told_127 : decode cX12_told 127 = .ok (.isub, 1) := by decide +kernel
theorem dX12_told_128 : decode cX12_told 128 = .ok (.iaload, 1) := by decide +kernel
theorem dX12_told_129 : decode cX12_told 129 = .ok (.ifCond .ne 7, 3) := by decide +kernel
theorem dX12_told_132 : decode cX12_told 132 = .ok (.iconst 1, 1) := by decide +kernel
theorem dX12_told_133 : decode cX12_told 133 = .ok (.goto 4, 3) := by decide +kernel
theorem dX12_told_136 : decode cX12_told 136 = .ok (.iconst 0, 1) := by decide +kernel
theorem dX12_told_137 : decode cX12_told 137 = .ok (.iastore, 1) := by decide +kernel
theorem dX12_told_138 : decode cX12_told 138 = .ok (.goto 49, 3) := by decide +kernel
theorem dX12_told_141 : decode cX12_told 141 = .ok (.aload_n 0, 1) := by decide +kernel
theorem dX12_told_142 : decode cX12_told 142 = .ok (.dup, 1) := by decide +kernel
theorem dX12_told_143 : decode cX12_told 143 = .ok (.getfield 289, 3) := by decide +kernel
theorem dX12_told_146 : decode cX12_told 146 = .ok (.iconst 1, 1) := by decide +kernel
theorem dX12_told_147 : decode cX12_told 147 = .ok (.isub, 1) := by decide +kernel
theorem dX12_told_148 : decode cX12_told 148 = .ok (.putfield 289, 3) := by decide +kernel
theorem dX12_told_151 : decode cX12_told 151 = .ok (.aload_n 0, 1) := by decide +kernel
theorem dX12_told_152 : decode cX12_told 152 = .ok (.getfield 164, 3) := by decide +kernel
theorem dX12_told_155 : decode cX12_told 155 = .ok (.aload_n 0, 1) := by decide +kernel
theorem dX12_told_156 : decode cX12_told 156 = .ok (.getfield 289, 3) := by decide +kernel
theorem dX12_told_159 : decode cX12_told 159 = .ok (.iconst 1, 1) := by decide +kernel
theorem dX12_told_160 : decode cX12_told 160 = .ok (.isub, 1) := by decide +kernel
theorem dX12_told_161 : decode cX12_told 161 = .ok (.iload 6, 2) := by decide +kernel
theorem dX12_told_163 : decode cX12_told 163 = .ok (.aload_n 0, 1) := by decide +kernel
theorem dX12_told_164 : decode cX12_told 164 = .ok (.getfield 164, 3) := by decide +kernel
theorem dX12_told_167 : decode cX12_told 167 = .ok (.aload_n 0, 1) := by decide +kernel
theorem dX12_told_168 : decode cX12_told 168 = .ok (.getfield 289, 3) := by decide +kernel
theorem dX12_told_171 : decode cX12_told 171 = .ok (.iconst 1, 1) := by decide +kernel
theorem dX12_told_172 : decode cX12_told 172 = .ok (.isub, 1) := by decide +kernel
theorem dX12_told_173 : decode cX12_told 173 = .ok (.iaload, 1) := by decide +kernel
theorem dX12_told_174 : decode cX12_told 174 = .ok (.aload_n 0, 1) := by decide +kernel
theorem dX12_told_175 : decode cX12_told 175 = .ok (.getfield 164, 3) := by decide +kernel
theorem dX12_told_178 : decode cX12_told 178 = .ok (.aload_n 0, 1) := by decide +kernel
theorem dX12_told_179 : decode cX12_told 179 = .ok (.getfield 289, 3) := by decide +kernel
theorem dX12_told_182 : decode cX12_told 182 = .ok (.iaload, 1) := by decide +kernel
theorem dX12_told_183 : decode cX12_told 183 = .ok (.invokestatic 296, 3) := by decide +kernel
theorem dX12_told_186 : decode cX12_told 186 = .ok (.iastore, 1) := by decide +kernel
theorem dX12_told_187 : decode cX12_told 187 = .ok (.iinc 5 1, 3) := by decide +kernel
theorem dX12_told_190 : decode cX12_told 190 = .ok (.goto (-182), 3) := by decide +kernel
theorem dX12_told_193 : decode cX12_told 193 = .ok (.aload_n 0, 1) := by decide +kernel
theorem dX12_told_194 : decode cX12_told 194 = .ok (.getfield 164, 3) := by decide +kernel
theorem dX12_told_197 : decode cX12_told 197 = .ok (.iconst 0, 1) := by decide +kernel
theorem dX12_told_198 : decode cX12_told 198 = .ok (.iaload, 1) := by decide +kernel
theorem dX12_told_199 : decode cX12_told 199 = .ok (.ireturn, 1) := by decide +kernel
def wX12_told_187 (k8 : Int32 → Int32 → Int32 → Int32 → km_S → Prop) (Q : Int32 → km_S → Prop) (l2 : Int32) (l3 : Int32) (l4 : Int32) (l5 : Int32) (μ : km_S) : Prop := ∀ v1 : Int32, v1 = l5 + 1 → k8 l2 l3 l4 v1 μ
def wX12_told_137 (k187 : Int32 → Int32 → Int32 → Int32 → km_S → Prop) (Q : Int32 → km_S → Prop) (l2 : Int32) (l3 : Int32) (l4 : Int32) (l5 : Int32) (s0 : Int32) (s1 : Int32) (μ : km_S) : Prop := vp_in s1 200 ∧ ∀ μ3, μ3 = km_sa μ 57 s1.toNatClampNeg s0 → k187 l2 l3 l4 l5 μ3
def wX12_told_193 (Q : Int32 → km_S → Prop) (μ : km_S) : Prop := Q (km_a μ 57 (Int32.toNatClampNeg 0)) μ
def wX12_told_8 (k193 : km_S → Prop) (Q : Int32 → km_S → Prop) : Nat → Int32 → Int32 → Int32 → Int32 → km_S → Prop
  | 0, _, _, _, _, _ => False
  | n + 1, l2, l3, l4, l5, μ => ((l2 ≤ l5 → k193 μ) ∧
    (¬ (l2 ≤ l5) → vp_in l5 5400 ∧ ∀ v6, v6 = km_a μ 56 l5.toNatClampNeg → ((¬ v6 = 0 → ((v6 < 20 → ((¬ v6 = 9 → ∀ μ10, μ10 = km_si μ 68 ((km_i μ 68) - 1) → vp_in ((km_i μ10 68) - 1) 200 ∧ vp_in (km_i μ10 68) 200 ∧ wX12_two v6 (km_a μ10 57 ((km_i μ10 68) - 1).toNatClampNeg) (km_a μ10 57 (km_i μ10 68).toNatClampNeg) μ10 fun r14 μ13 => vp_in ((km_i μ10 68) - 1) 200 ∧ ∀ μ16, μ16 = km_sa μ13 57 ((km_i μ10 68) - 1).toNatClampNeg r14 → wX12_told_187 (wX12_told_8 k193 Q n) Q l2 l3 l4 l5 μ16) ∧
          (v6 = 9 → vp_in ((km_i μ 68) - 1) 200 ∧ ((¬ (km_a μ 57 ((km_i μ 68) - 1).toNatClampNeg) = 0 → wX12_told_137 (wX12_told_187 (wX12_told_8 k193 Q n) Q) Q l2 l3 l4 l5 0 ((km_i μ 68) - 1) μ) ∧
            ((km_a μ 57 ((km_i μ 68) - 1).toNatClampNeg) = 0 → wX12_told_137 (wX12_told_187 (wX12_told_8 k193 Q n) Q) Q l2 l3 l4 l5 1 ((km_i μ 68) - 1) μ))))) ∧
        (¬ (v6 < 20) → wX12_value (v6 - 20) l3 l4 μ fun r20 μ19 => vp_in (km_i μ 68) 200 ∧ ∀ μ22, μ22 = km_sa μ19 57 (km_i μ 68).toNatClampNeg r20 → ∀ μ23, μ23 = km_si μ22 68 ((km_i μ22 68) + 1) → wX12_told_187 (wX12_told_8 k193 Q n) Q l2 l3 l4 l5 μ23))) ∧
      (v6 = 0 → ∀ v24 : Int32, v24 = l5 + 1 → vp_in v24 5400 ∧ vp_in (km_i μ 68) 200 ∧ ∀ μ27, μ27 = km_sa μ 57 (km_i μ 68).toNatClampNeg (km_a μ 56 v24.toNatClampNeg) → ∀ μ28, μ28 = km_si μ27 68 ((km_i μ27 68) + 1) → wX12_told_187 (wX12_told_8 k193 Q n) Q l2 l3 l4 v24 μ28))))
def wX12_told (l1 : Int32) (l2 : Int32) (l3 : Int32) (l4 : Int32) (μ : km_S) (Q : Int32 → km_S → Prop) : Prop := ∀ μ29, μ29 = km_si μ 68 0 → ∃ j, wX12_told_8 (wX12_told_193 Q) Q j l2 l3 l4 l1 μ29
set_option maxRecDepth 100000 in
set_option maxHeartbeats 4000000 in
theorem tX12_told_187 (l : Launch) (G : km_G) {p : Program} {e : Env} {s : State} {m : MethodId} {args : Array Value} {below : List Frame} {meth : Method} {c : Code} (F : CallFix p m c cX12_told 7 s args kt_ RX12) (hr : meth.sig.returnType = (some .int)) (hlocks : meth.locks = false) (Q : Int32 → km_S → Prop) (k8 : Int32 → Int32 → Int32 → Int32 → km_S → Prop) (hk8 : ∀ (l2 : Int32) (l3 : Int32) (l4 : Int32) (l5 : Int32) (μ : km_S) (H : Heap) (locs : List Loc) (ls : Array Slot), k8 l2 l3 l4 l5 μ → km_X G s H locs μ → lv_has ls 7 [(0, .ref (G.1 0)), (2, .int l2), (3, .int l3), (4, .int l4), (5, .int l5)] → W p l e { frames := 1, cells := 0, slots := 0, locals := 23 } s m args below meth c H locs 0 0 (MQ below (km_Qi G Q) args s 0 0 (km_A G)) (F0 m 8 ls [])) : ∀ (l2 : Int32) (l3 : Int32) (l4 : Int32) (l5 : Int32) (μ : km_S) (H : Heap) (locs : List Loc) (ls : Array Slot), wX12_told_187 k8 Q l2 l3 l4 l5 μ → km_X G s H locs μ → lv_has ls 7 [(0, .ref (G.1 0)), (2, .int l2), (3, .int l3), (4, .int l4), (5, .int l5)] → W p l e { frames := 1, cells := 0, slots := 0, locals := 23 } s m args below meth c H locs 0 0 (MQ below (km_Qi G Q) args s 0 0 (km_A G)) (F0 m 187 ls []) := by
  intro l2 l3 l4 l5 μ H locs ls h C hl
  obtain ⟨v1, ev1⟩ : ∃ z9 : Int32, z9 = l5 + 1 := ⟨_, rfl⟩
  have h := h v1 ev1
  refine lv_iinc (v := v1) (lv' := [(5, .int v1), (0, .ref (G.1 0)), (2, .int l2), (3, .int l3), (4, .int l4)]) F.1 F.2.1 dX12_told_187 hl (k := 4) rfl (by rw [ev1]; rfl) (by decide) rfl (fun ls hl => ?_)
  refine lv_goto (tgt := 8) F.1 F.2.1 dX12_told_190 (by decide) ?_
  exact hk8 l2 l3 l4 v1 μ H locs ls h C (lv_sub hl [1, 2, 3, 4, 0] rfl)
set_option maxRecDepth 100000 in
set_option maxHeartbeats 4000000 in
theorem tX12_told_137 (l : Launch) (G : km_G) {p : Program} {e : Env} {s : State} {m : MethodId} {args : Array Value} {below : List Frame} {meth : Method} {c : Code} (F : CallFix p m c cX12_told 7 s args kt_ RX12) (hr : meth.sig.returnType = (some .int)) (hlocks : meth.locks = false) (Q : Int32 → km_S → Prop) (k187 : Int32 → Int32 → Int32 → Int32 → km_S → Prop) (hk187 : ∀ (l2 : Int32) (l3 : Int32) (l4 : Int32) (l5 : Int32) (μ : km_S) (H : Heap) (locs : List Loc) (ls : Array Slot), k187 l2 l3 l4 l5 μ → km_X G s H locs μ → lv_has ls 7 [(0, .ref (G.1 0)), (2, .int l2), (3, .int l3), (4, .int l4), (5, .int l5)] → W p l e { frames := 1, cells := 0, slots := 0, locals := 23 } s m args below meth c H locs 0 0 (MQ below (km_Qi G Q) args s 0 0 (km_A G)) (F0 m 187 ls [])) : ∀ (l2 : Int32) (l3 : Int32) (l4 : Int32) (l5 : Int32) (s0 : Int32) (s1 : Int32) (μ : km_S) (H : Heap) (locs : List Loc) (ls : Array Slot), wX12_told_137 k187 Q l2 l3 l4 l5 s0 s1 μ → km_X G s H locs μ → lv_has ls 7 [(0, .ref (G.1 0)), (2, .int l2), (3, .int l3), (4, .int l4), (5, .int l5)] → W p l e { frames := 1, cells := 0, slots := 0, locals := 23 } s m args below meth c H locs 0 0 (MQ below (km_Qi G Q) args s 0 0 (km_A G)) (F0 m 137 ls [.int s0, .int s1, .ref (G.1 58)]) := by
  intro l2 l3 l4 l5 s0 s1 μ H locs ls h C hl
  obtain ⟨hn2, h⟩ := h
  refine kq_stack F C hn2 dX12_told_137 (fun H locs C => ?_)
  generalize eμ3 : km_sa μ 57 s1.toNatClampNeg s0 = μ3 at C
  have h := h μ3 eμ3.symm
  refine lv_goto (tgt := 187) F.1 F.2.1 dX12_told_138 (by decide) ?_
  exact hk187 l2 l3 l4 l5 μ3 H locs ls h C (lv_sub hl [0, 1, 2, 3, 4] rfl)
set_option maxRecDepth 100000 in
set_option maxHeartbeats 4000000 in
theorem tX12_told_193 (l : Launch) (G : km_G) {p : Program} {e : Env} {s : State} {m : MethodId} {args : Array Value} {below : List Frame} {meth : Method} {c : Code} (F : CallFix p m c cX12_told 7 s args kt_ RX12) (hr : meth.sig.returnType = (some .int)) (hlocks : meth.locks = false) (Q : Int32 → km_S → Prop) : ∀ (μ : km_S) (H : Heap) (locs : List Loc) (ls : Array Slot), wX12_told_193 Q μ → km_X G s H locs μ → lv_has ls 7 [(0, .ref (G.1 0))] → W p l e { frames := 1, cells := 0, slots := 0, locals := 23 } s m args below meth c H locs 0 0 (MQ below (km_Qi G Q) args s 0 0 (km_A G)) (F0 m 193 ls []) := by
  intro  μ H locs ls h C hl
  refine lv_aload_n F.1 F.2.1 dX12_told_193 rfl (lv_at hl 0 rfl) ?_
  refine kg_stack F C dX12_told_194 ?_
  refine lv_iconst (v := 0) F.1 F.2.1 dX12_told_197 (by decide) ?_
  refine kl_stack F C (by unfold vp_in; decide) dX12_told_198 ?_
  exact km_iret F C hr hlocks h dX12_told_199
set_option maxRecDepth 100000 in
set_option maxHeartbeats 4000000 in
theorem tX12_told_8 (l : Launch) (G : km_G) {p : Program} {e : Env} {s : State} {m : MethodId} {args : Array Value} {below : List Frame} {meth : Method} {c : Code} (F : CallFix p m c cX12_told 7 s args kt_ RX12) (hr : meth.sig.returnType = (some .int)) (hlocks : meth.locks = false) (Q : Int32 → km_S → Prop) (k193 : km_S → Prop) (hk193 : ∀  (μ : km_S) (H : Heap) (locs : List Loc) (ls : Array Slot), k193  μ → km_X G s H locs μ → lv_has ls 7 [(0, .ref (G.1 0))] → W p l e { frames := 1, cells := 0, slots := 0, locals := 23 } s m args below meth c H locs 0 0 (MQ below (km_Qi G Q) args s 0 0 (km_A G)) (F0 m 193 ls [])) : ∀ (n : Nat) (l2 : Int32) (l3 : Int32) (l4 : Int32) (l5 : Int32) (μ : km_S) (H : Heap) (locs : List Loc) (ls : Array Slot), wX12_told_8 k193 Q n l2 l3 l4 l5 μ → km_X G s H locs μ → lv_has ls 7 [(0, .ref (G.1 0)), (2, .int l2), (3, .int l3), (4, .int l4), (5, .int l5)] → W p l e { frames := 1, cells := 0, slots := 0, locals := 23 } s m args below meth c H locs 0 0 (MQ below (km_Qi G Q) args s 0 0 (km_A G)) (F0 m 8 ls []) := by
  intro n
  induction n with
  | zero => intro l2 l3 l4 l5 μ H locs ls h; exact h.elim
  | succ n ih =>
    intro l2 l3 l4 l5 μ H locs ls h C hl
    refine lv_iload F.1 F.2.1 dX12_told_8 (lv_at hl 4 rfl) ?_
    refine lv_iload_n F.1 F.2.1 dX12_told_10 rfl (lv_at hl 1 rfl) ?_
    refine lv_icmp_ge (tgt := 193) F.1 F.2.1 dX12_told_11 (by decide) (fun c4 => ?_) (fun c4 => ?_)
    · have h := h.1 c4
      exact hk193 μ H locs ls h C (lv_sub hl [0] rfl)
    · have h := h.2 c4
      refine lv_aload_n F.1 F.2.1 dX12_told_14 rfl (lv_at hl 0 rfl) ?_
      refine kg_codeRow F C dX12_told_15 ?_
      refine lv_iload F.1 F.2.1 dX12_told_18 (lv_at hl 4 rfl) ?_
      obtain ⟨hn5, h⟩ := h
      refine kl_codeRow F C hn5 dX12_told_20 ?_
      refine lv_topi (fun v6 ev6 => ?_)
      have h := h v6 ev6
      refine lv_istore (lv' := [(6, .int v6), (0, .ref (G.1 0)), (2, .int l2), (3, .int l3), (4, .int l4), (5, .int l5)]) F.1 F.2.1 dX12_told_21 hl (by decide) rfl (fun ls hl => ?_)
      refine lv_iload F.1 F.2.1 dX12_told_23 (lv_at hl 0 rfl) ?_
      refine lv_if_ne (tgt := 60) F.1 F.2.1 dX12_told_25 (by decide) (fun c7 => ?_) (fun c7 => ?_)
      · have h := h.1 c7
        refine lv_iload F.1 F.2.1 dX12_told_60 (lv_at hl 0 rfl) ?_
        refine lv_bipush (v := 20) F.1 F.2.1 dX12_told_62 (by decide) ?_
        refine lv_icmp_lt (tgt := 101) F.1 F.2.1 dX12_told_64 (by decide) (fun c8 => ?_) (fun c8 => ?_)
        · have h := h.1 c8
          refine lv_iload F.1 F.2.1 dX12_told_101 (lv_at hl 0 rfl) ?_
          refine lv_bipush (v := 9) F.1 F.2.1 dX12_told_103 (by decide) ?_
          refine lv_icmp_ne (tgt := 141) F.1 F.2.1 dX12_told_105 (by decide) (fun c9 => ?_) (fun c9 => ?_)
          · have h := h.1 c9
            refine lv_aload_n F.1 F.2.1 dX12_told_141 rfl (lv_at hl 1 rfl) ?_
            refine lv_dup F.1 F.2.1 dX12_told_142 rfl ?_
            refine kg_top F C dX12_told_143 ?_
            refine lv_iconst (v := 1) F.1 F.2.1 dX12_told_146 (by decide) ?_
            refine lv_isub (x := km_i μ 68) (y := 1) F.1 F.2.1 dX12_told_147 ?_
            refine kp_top F C dX12_told_148 (fun H locs C => ?_)
            generalize eμ10 : km_si μ 68 ((km_i μ 68) - 1) = μ10 at C
            have h := h μ10 eμ10.symm
            refine lv_aload_n F.1 F.2.1 dX12_told_151 rfl (lv_at hl 1 rfl) ?_
            refine kg_stack F C dX12_told_152 ?_
            refine lv_aload_n F.1 F.2.1 dX12_told_155 rfl (lv_at hl 1 rfl) ?_
            refine kg_top F C dX12_told_156 ?_
            refine lv_iconst (v := 1) F.1 F.2.1 dX12_told_159 (by decide) ?_
            refine lv_isub (x := km_i μ10 68) (y := 1) F.1 F.2.1 dX12_told_160 ?_
            refine lv_iload F.1 F.2.1 dX12_told_161 (lv_at hl 0 rfl) ?_
            refine lv_aload_n F.1 F.2.1 dX12_told_163 rfl (lv_at hl 1 rfl) ?_
            refine kg_stack F C dX12_told_164 ?_
            refine lv_aload_n F.1 F.2.1 dX12_told_167 rfl (lv_at hl 1 rfl) ?_
            refine kg_top F C dX12_told_168 ?_
            refine lv_iconst (v := 1) F.1 F.2.1 dX12_told_171 (by decide) ?_
            refine lv_isub (x := km_i μ10 68) (y := 1) F.1 F.2.1 dX12_told_172 ?_
            obtain ⟨hn11, h⟩ := h
            refine kl_stack F C hn11 dX12_told_173 ?_
            refine lv_aload_n F.1 F.2.1 dX12_told_174 rfl (lv_at hl 1 rfl) ?_
            refine kg_stack F C dX12_told_175 ?_
            refine lv_aload_n F.1 F.2.1 dX12_told_178 rfl (lv_at hl 1 rfl) ?_
            refine kg_top F C dX12_told_179 ?_
            obtain ⟨hn12, h⟩ := h
            refine kl_stack F C hn12 dX12_told_182 ?_
            refine kc_X12_two F C h (Nat.le_of_ble_eq_true rfl) (Nat.le_of_ble_eq_true rfl) hl.1 (by simp [Value.category]) dX12_told_183 (fun r14 μ13 H locs h C => ?_)
            obtain ⟨hn15, h⟩ := h
            refine kq_stack F C hn15 dX12_told_186 (fun H locs C => ?_)
            generalize eμ16 : km_sa μ13 57 ((km_i μ10 68) - 1).toNatClampNeg r14 = μ16 at C
            have h := h μ16 eμ16.symm
            exact tX12_told_187 l G F hr hlocks Q (wX12_told_8 k193 Q n) (fun l2 l3 l4 l5 μ9 H locs ls h C hl => ih l2 l3 l4 l5 μ9 H locs ls h C hl) l2 l3 l4 l5 μ16 H locs ls h C (lv_sub hl [1, 2, 3, 4, 5] rfl)
          · have h := h.2 c9
            refine lv_aload_n F.1 F.2.1 dX12_told_108 rfl (lv_at hl 1 rfl) ?_
            refine kg_stack F C dX12_told_109 ?_
            refine lv_aload_n F.1 F.2.1 dX12_told_112 rfl (lv_at hl 1 rfl) ?_
            refine kg_top F C dX12_told_113 ?_
            refine lv_iconst (v := 1) F.1 F.2.1 dX12_told_116 (by decide) ?_
            refine lv_isub (x := km_i μ 68) (y := 1) F.1 F.2.1 dX12_told_117 ?_
            refine lv_aload_n F.1 F.2.1 dX12_told_118 rfl (lv_at hl 1 rfl) ?_
            refine kg_stack F C dX12_told_119 ?_
            refine lv_aload_n F.1 F.2.1 dX12_told_122 rfl (lv_at hl 1 rfl) ?_
            refine kg_top F C dX12_told_123 ?_
            refine lv_iconst (v := 1) F.1 F.2.1 dX12_told_126 (by decide) ?_
            refine lv_isub (x := km_i μ 68) (y := 1) F.1 F.2.1 dX12_told_127 ?_
            obtain ⟨hn17, h⟩ := h
            refine kl_stack F C hn17 dX12_told_128 ?_
            refine lv_if_ne (tgt := 136) F.1 F.2.1 dX12_told_129 (by decide) (fun c18 => ?_) (fun c18 => ?_)
            · have h := h.1 c18
              refine lv_iconst (v := 0) F.1 F.2.1 dX12_told_136 (by decide) ?_
              exact tX12_told_137 l G F hr hlocks Q (wX12_told_187 (wX12_told_8 k193 Q n) Q) (tX12_told_187 l G F hr hlocks Q (wX12_told_8 k193 Q n) (fun l2 l3 l4 l5 μ9 H locs ls h C hl => ih l2 l3 l4 l5 μ9 H locs ls h C hl)) l2 l3 l4 l5 0 ((km_i μ 68) - 1) μ H locs ls h C (lv_sub hl [1, 2, 3, 4, 5] rfl)
            · have h := h.2 c18
              refine lv_iconst (v := 1) F.1 F.2.1 dX12_told_132 (by decide) ?_
              refine lv_goto (tgt := 137) F.1 F.2.1 dX12_told_133 (by decide) ?_
              exact tX12_told_137 l G F hr hlocks Q (wX12_told_187 (wX12_told_8 k193 Q n) Q) (tX12_told_187 l G F hr hlocks Q (wX12_told_8 k193 Q n) (fun l2 l3 l4 l5 μ9 H locs ls h C hl => ih l2 l3 l4 l5 μ9 H locs ls h C hl)) l2 l3 l4 l5 1 ((km_i μ 68) - 1) μ H locs ls h C (lv_sub hl [1, 2, 3, 4, 5] rfl)
        · have h := h.2 c8
          refine lv_aload_n F.1 F.2.1 dX12_told_67 rfl (lv_at hl 1 rfl) ?_
          refine kg_stack F C dX12_told_68 ?_
          refine lv_aload_n F.1 F.2.1 dX12_told_71 rfl (lv_at hl 1 rfl) ?_
          refine kg_top F C dX12_told_72 ?_
          refine lv_aload_n F.1 F.2.1 dX12_told_75 rfl (lv_at hl 1 rfl) ?_
          refine lv_iload F.1 F.2.1 dX12_told_76 (lv_at hl 0 rfl) ?_
          refine lv_bipush (v := 20) F.1 F.2.1 dX12_told_78 (by decide) ?_
          refine lv_isub (x := v6) (y := 20) F.1 F.2.1 dX12_told_80 ?_
          refine lv_iload_n F.1 F.2.1 dX12_told_81 rfl (lv_at hl 3 rfl) ?_
          refine lv_iload F.1 F.2.1 dX12_told_82 (lv_at hl 4 rfl) ?_
          refine kc_X12_value F C h (Nat.le_of_ble_eq_true rfl) (Nat.le_of_ble_eq_true rfl) hl.1 (by simp [Value.category]) dX12_told_84 (fun r20 μ19 H locs h C => ?_)
          obtain ⟨hn21, h⟩ := h
          refine kq_stack F C hn21 dX12_told_87 (fun H locs C => ?_)
          generalize eμ22 : km_sa μ19 57 (km_i μ 68).toNatClampNeg r20 = μ22 at C
          have h := h μ22 eμ22.symm
          refine lv_aload_n F.1 F.2.1 dX12_told_88 rfl (lv_at hl 1 rfl) ?_
          refine lv_dup F.1 F.2.1 dX12_told_89 rfl ?_
          refine kg_top F C dX12_told_90 ?_
          refine lv_iconst (v := 1) F.1 F.2.1 dX12_told_93 (by decide) ?_
          refine lv_iadd (x := km_i μ22 68) (y := 1) F.1 F.2.1 dX12_told_94 ?_
          refine kp_top F C dX12_told_95 (fun H locs C => ?_)
          generalize eμ23 : km_si μ22 68 ((km_i μ22 68) + 1) = μ23 at C
          have h := h μ23 eμ23.symm
          refine lv_goto (tgt := 187) F.1 F.2.1 dX12_told_98 (by decide) ?_
          exact tX12_told_187 l G F hr hlocks Q (wX12_told_8 k193 Q n) (fun l2 l3 l4 l5 μ9 H locs ls h C hl => ih l2 l3 l4 l5 μ9 H locs ls h C hl) l2 l3 l4 l5 μ23 H locs ls h C (lv_sub hl [1, 2, 3, 4, 5] rfl)
      · have h := h.2 c7
        obtain ⟨v24, ev24⟩ : ∃ z9 : Int32, z9 = l5 + 1 := ⟨_, rfl⟩
        have h := h v24 ev24
        refine lv_iinc (v := v24) (lv' := [(5, .int v24), (6, .int v6), (0, .ref (G.1 0)), (2, .int l2), (3, .int l3), (4, .int l4)]) F.1 F.2.1 dX12_told_28 hl (k := 5) rfl (by rw [ev24]; rfl) (by decide) rfl (fun ls hl => ?_)
        refine lv_aload_n F.1 F.2.1 dX12_told_31 rfl (lv_at hl 2 rfl) ?_
        refine kg_stack F C dX12_told_32 ?_
        refine lv_aload_n F.1 F.2.1 dX12_told_35 rfl (lv_at hl 2 rfl) ?_
        refine kg_top F C dX12_told_36 ?_
        refine lv_aload_n F.1 F.2.1 dX12_told_39 rfl (lv_at hl 2 rfl) ?_
        refine kg_codeRow F C dX12_told_40 ?_
        refine lv_iload F.1 F.2.1 dX12_told_43 (lv_at hl 0 rfl) ?_
        obtain ⟨hn25, h⟩ := h
        refine kl_codeRow F C hn25 dX12_told_45 ?_
        obtain ⟨hn26, h⟩ := h
        refine kq_stack F C hn26 dX12_told_46 (fun H locs C => ?_)
        generalize eμ27 : km_sa μ 57 (km_i μ 68).toNatClampNeg (km_a μ 56 v24.toNatClampNeg) = μ27 at C
        have h := h μ27 eμ27.symm
        refine lv_aload_n F.1 F.2.1 dX12_told_47 rfl (lv_at hl 2 rfl) ?_
        refine lv_dup F.1 F.2.1 dX12_told_48 rfl ?_
        refine kg_top F C dX12_told_49 ?_
        refine lv_iconst (v := 1) F.1 F.2.1 dX12_told_52 (by decide) ?_
        refine lv_iadd (x := km_i μ27 68) (y := 1) F.1 F.2.1 dX12_told_53 ?_
        refine kp_top F C dX12_told_54 (fun H locs C => ?_)
        generalize eμ28 : km_si μ27 68 ((km_i μ27 68) + 1) = μ28 at C
        have h := h μ28 eμ28.symm
        refine lv_goto (tgt := 187) F.1 F.2.1 dX12_told_57 (by decide) ?_
        exact tX12_told_187 l G F hr hlocks Q (wX12_told_8 k193 Q n) (fun l2 l3 l4 l5 μ9 H locs ls h C hl => ih l2 l3 l4 l5 μ9 H locs ls h C hl) l2 l3 l4 v24 μ28 H locs ls h C (lv_sub hl [2, 3, 4, 5, 0] rfl)
set_option maxRecDepth 100000 in
set_option maxHeartbeats 4000000 in
theorem hc_X12_told (l : Launch) (G : km_G) (l1 : Int32) (l2 : Int32) (l3 : Int32) (l4 : Int32) (μ : km_S) (Q : Int32 → km_S → Prop) (h : wX12_told l1 l2 l3 l4 μ Q) : km_M l G yX12_told cX12_told 7 (some .int) (1) (23) [.ref (G.1 0), .int l1, .int l2, .int l3, .int l4] μ (km_Qi G Q) := by
  refine km_enter (by decide) rfl (Nat.le_of_ble_eq_true rfl) ?_
  intro p e s m below meth c ls F hr hlocks C hl
  have hl : lv_has ls 7 [(0, .ref (G.1 0)), (1, .int l1), (2, .int l2), (3, .int l3), (4, .int l4)] := hl
  obtain ⟨H, eH⟩ : ∃ z9, z9 = s.heap := ⟨_, rfl⟩
  obtain ⟨locs, eL⟩ : ∃ z9 : List Loc, z9 = [] := ⟨_, rfl⟩
  rw [← eH, ← eL] at C
  rw [← eH, ← eL]
  refine lv_aload_n F.1 F.2.1 dX12_told_0 rfl (lv_at hl 0 rfl) ?_
  refine lv_iconst (v := 0) F.1 F.2.1 dX12_told_1 (by decide) ?_
  refine kp_top F C dX12_told_2 (fun H locs C => ?_)
  generalize eμ29 : km_si μ 68 0 = μ29 at C
  have h := h μ29 eμ29.symm
  refine lv_iload_n F.1 F.2.1 dX12_told_5 rfl (lv_at hl 1 rfl) ?_
  refine lv_istore (lv' := [(5, .int l1), (0, .ref (G.1 0)), (1, .int l1), (2, .int l2), (3, .int l3), (4, .int l4)]) F.1 F.2.1 dX12_told_6 hl (by decide) rfl (fun ls hl => ?_)
  obtain ⟨n30, h⟩ := h
  exact tX12_told_8 l G F hr hlocks Q (wX12_told_193 Q) (tX12_told_193 l G F hr hlocks Q) n30 l2 l3 l4 l1 μ29 H locs ls h C (lv_sub hl [1, 3, 4, 5, 0] rfl)
section
variable {p : Program} {l : Launch} {e : Env} {R : Room} {s : State} {m : MethodId} {args : Array Value} {below : List Frame} {meth : Method} {c : Code} {H : Heap} {locs : List Loc} {Q : State → Prop}
variable {cc : ByteArray} {pc nL : Nat} {ls : Array Slot} {rest : List Value} {G : km_G} {μ : km_S}
theorem kc_X12_told (F : CallFix p m c cc nL s args kt_ RX12) (C : km_X G s H locs μ) {P : Int32 → km_S → Prop} {l1 : Int32} {l2 : Int32} {l3 : Int32} {l4 : Int32} (h : wX12_told l1 l2 l3 l4 μ P) (h1 : (1) + 1 ≤ R.frames) (h2 : 8 + (7 + 11) + (23) ≤ R.locals) (hsz : ls.size = nL) (hW : (rest.map fun v => v.category).sum ≤ 8) (hdg : decode cc pc = .ok (.invokevirtual 299, 3)) (kk : ∀ (r : Int32) (μ' : km_S) (H1 : Heap) (locs1 : List Loc), P r μ' → km_X G s H1 locs1 μ' → W p l e R s m args below meth c H1 locs1 0 0 Q (F0 m (pc + 3) ls (.int r :: rest))) : W p l e R s m args below meth c H locs 0 0 Q (F0 m pc ls (.int l4 :: .int l3 :: .int l2 :: .int l1 :: .ref (G.1 0) :: rest)) :=
  km_cVi (n := 4) (As := [.int l1, .int l2, .int l3, .int l4]) F C (hc_X12_told l G l1 l2 l3 l4 μ P h) (kt_V tw_216 tw_217 tw_218 tw_151 tw_219) (by decide +kernel) ⟨h1, h2⟩ rfl hsz hW hdg kk
end
theorem dX12_ruled_0 : decode cX12_ruled 0 = .ok (.iconst (-1), 1) := by decide +kernel
theorem dX12_ruled_1 : decode cX12_ruled 1 = .ok (.istore 4, 2) := by decide +kernel
theorem dX12_ruled_3 : decode cX12_ruled 3 = .ok (.iconst 0, 1) := by decide +kernel
theorem dX12_ruled_4 : decode cX12_ruled 4 = .ok (.istore 5, 2) := by decide +kernel
theorem dX12_ruled_6 : decode cX12_ruled 6 = .ok (.iload 5, 2) := by decide +kernel
theorem dX12_ruled_8 : decode cX12_ruled 8 = .ok (.aload_n 0, 1) := by decide +kernel
theorem dX12_ruled_9 : decode cX12_ruled 9 = .ok (.getfield 238, 3) := by decide +kernel
theorem dX12_ruled_12 : decode cX12_ruled 12 = .ok (.if_icmp .ge 53, 3) := by decide +kernel
theorem dX12_ruled_15 : decode cX12_ruled 15 = .ok (.aload_n 0, 1) := by decide +kernel
theorem dX12_ruled_16 : decode cX12_ruled 16 = .ok (.getfield 152, 3) := by decide +kernel
theorem dX12_ruled_19 : decode cX12_ruled 19 = .ok (.iload 5, 2) := by decide +kernel
theorem dX12_ruled_21 : decode cX12_ruled 21 = .ok (.iaload, 1) := by decide +kernel
theorem dX12_ruled_22 : decode cX12_ruled 22 = .ok (.aload_n 0, 1) := by decide +kernel
theorem dX12_ruled_23 : decode cX12_ruled 23 = .ok (.getfield 192, 3) := by decide +kernel
theorem dX12_ruled_26 : decode cX12_ruled 26 = .ok (.bipush 24, 2) := by decide +kernel
theorem dX12_ruled_28 : decode cX12_ruled 28 = .ok (.idiv, 1) := by decide +kernel
theorem dX12_ruled_29 : decode cX12_ruled 29 = .ok (.if_icmp .gt 30, 3) := by decide +kernel
theorem dX12_ruled_32 : decode cX12_ruled 32 = .ok (.iload 4, 2) := by decide +kernel
theorem dX12_ruled_34 : decode cX12_ruled 34 = .ok (.iconst (-1), 1) := by decide +kernel
theorem dX12_ruled_35 : decode cX12_ruled 35 = .ok (.if_icmp .eq 20, 3) := by decide +kernel
theorem dX12_ruled_38 : decode cX12_ruled 38 = .ok (.aload_n 0, 1) := by decide +kernel
theorem dX12_ruled_39 : decode cX12_ruled 39 = .ok (.getfield 152, 3) := by decide +kernel
theorem dX12_ruled_42 : decode cX12_ruled 42 = .ok (.iload 5, 2) := by decide +kernel
theorem dX12_ruled_44 : decode cX12_ruled 44 = .ok (.iaload, 1) := by decide +kernel
theorem dX12_ruled_45 : decode cX12_ruled 45 = .ok (.aload_n 0, 1) := by decide +kernel
theorem dX12_ruled_46 : decode cX12_ruled 46 = .ok (.getfield 152, 3) := by decide +kernel
theorem dX12_ruled_49 : decode cX12_ruled 49 = .ok (.iload 4, 2) := by decide +kernel
theorem dX12_ruled_51 : decode cX12_ruled 51 = .ok (.iaload, 1) := by decide +kernel
theorem dX12_ruled_52 : decode cX12_ruled 52 = .ok (.if_icmp .lt 7, 3) := by decide +kernel
theorem dX12_ruled_55 : decode cX12_ruled 55 = .ok (.iload 5, 2) := by decide +kernel
theorem dX12_ruled_57 : decode cX12_ruled 57 = .ok (.istore 4, 2) := by decide +kernel
theorem dX12_ruled_59 : decode cX12_ruled 59 = .ok (.iinc 5 1, 3) := by decide +kernel
theorem dX12_ruled_62 : decode cX12_ruled 62 = .ok (.goto (-56), 3) := by decide +kernel
theorem dX12_ruled_65 : decode cX12_ruled 65 = .ok (.iconst 0, 1) := by decide +kernel
theorem dX12_ruled_66 : decode cX12_ruled 66 = .ok (.istore 5, 2) := by decide +kernel
theorem dX12_ruled_68 : decode cX12_ruled 68 = .ok (.iconst 0, 1) := by decide +kernel
theorem dX12_ruled_69 : decode cX12_ruled 69 = .ok (.istore 6, 2) := by decide +kernel
theorem dX12_ruled_71 : decode cX12_ruled 71 = .ok (.iload 4, 2) := by decide +kernel
theorem dX12_ruled_73 : decode cX12_ruled 73 = .ok (.iconst (-1), 1) := by decide +kernel
theorem dX12_ruled_74 : decode cX12_ruled 74 = .ok (.if_icmp .eq 114, 3) := by decide +kernel
theorem dX12_ruled_77 : decode cX12_ruled 77 = .ok (.iload 6, 2) := by decide +kernel
theorem dX12_ruled_79 : decode cX12_ruled 79 = .ok (.aload_n 0, 1) := by decide +kernel
theorem dX12_ruled_80 : decode cX12_ruled 80 = .ok (.getfield 155, 3) := by decide +kernel
theorem dX12_ruled_83 : decode cX12_ruled 83 = .ok (.iload 4, 2) := by decide +kernel
theorem dX12_ruled_85 : decode cX12_ruled 85 = .ok (.iaload, 1) := by decide +kernel
theorem dX12_ruled_86 : decode cX12_ruled 86 = .ok (.if_icmp .ge 102, 3) := by decide +kernel
theorem dX12_ruled_89 : decode cX12_ruled 89 = .ok (.aload_n 0, 1) := by decide +kernel
theorem dX12_ruled_90 : decode cX12_ruled 90 = .ok (.getfield 167, 3) := by decide +kernel
theorem dX12_ruled_93 : decode cX12_ruled 93 = .ok (.bipush 12, 2) := by decide +kernel
theorem dX12_ruled_95 : decode cX12_ruled 95 = .ok (.iload 4, 2) := by decide +kernel
theorem dX12_ruled_97 : decode cX12_ruled 97 = .ok (.imul, 1) := by decide +kernel
theorem dX12_ruled_98 : decode cX12_ruled 98 = .ok (.iload 6, 2) := by decide +kernel
theorem dX12_ruled_100 : decode cX12_ruled 100 = .ok (.iadd, 1) := by decide +kernel
theorem dX12_ruled_101 : decode cX12_ruled 101 = .ok (.baload, 1) := by decide +kernel
theorem dX12_ruled_102 : decode cX12_ruled 102 = .ok (.iload_n 1, 1) := by decide +kernel
theorem dX12_ruled_103 : decode cX12_ruled 103 = .ok (.if_icmp .eq 6, 3) := by decide +kernel
theorem dX12_ruled_106 : decode cX12_ruled 106 = .ok (.goto 76, 3) := by decide +kernel
theorem dX12_ruled_109 : decode cX12_ruled 109 = .ok (.bipush 13, 2) := by decide +kernel
theorem dX12_ruled_111 : decode cX12_ruled 111 = .ok (.iload 4, 2) := by decide +kernel
theorem dX12_ruled_113 : decode cX12_ruled 113 = .ok (.imul, 1) := by decide +kernel
theorem dX12_ruled_114 : decode cX12_ruled 114 = .ok (.iload 6, 2) := by decide +kernel
theorem dX12_ruled_116 : decode cX12_ruled 116 = .ok (.iadd, 1) := by decide +kernel
theorem dX12_ruled_117 : decode cX12_ruled 117 = .ok (.istore 7, 2) := by decide +kernel
theorem dX12_ruled_119 : decode cX12_ruled 119 = .ok (.aload_n 0, 1) := by decide +kernel
theorem dX12_ruled_120 : decode cX12_ruled 120 = .ok (.sipush 900, 3) := by decide +kernel
theorem dX12_ruled_123 : decode cX12_ruled 123 = .ok (.iload 4, 2) := by decide +kernel
theorem dX12_ruled_125 : decode cX12_ruled 125 = .ok (.imul, 1) := by decide +kernel
theorem dX12_ruled_126 : decode cX12_ruled 126 = .ok (.aload_n 0, 1) := by decide +kernel
theorem dX12_ruled_127 : decode cX12_ruled 127 = .ok (.getfield 158, 3) := by decide +kernel
theorem dX12_ruled_130 : decode cX12_ruled 130 = .ok (.iload 7, 2) := by decide +kernel
theorem dX12_ruled_132 : decode cX12_ruled 132 = .ok (.iaload, 1) := by decide +kernel
theorem dX12_ruled_133 : decode cX12_ruled 133 = .ok (.iadd, 1) := by decide +kernel
theorem dX12_ruled_134 : decode cX12_ruled 134 = .ok (.sipush 900, 3) := by decide +kernel
theorem dX12_ruled_137 : decode cX12_ruled 137 = .ok (.iload 4, 2) := by decide +kernel
theorem dX12_ruled_139 : decode cX12_ruled 139 = .ok (.imul, 1) := by decide +kernel
theorem dX12_ruled_140 : decode cX12_ruled 140 = .ok (.aload_n 0, 1) := by decide +kernel
theorem dX12_ruled_141 : decode cX12_ruled 141 = .ok (.getfield 158, 3) := by decide +kernel
theorem dX12_ruled_144 : decode cX12_ruled 144 = .ok (.iload 7, 2) := by decide +kernel
theorem dX12_ruled_146 : decode cX12_ruled 146 = .ok (.iconst 1, 1) := by decide +kernel
theorem dX12_ruled_147 : decode cX12_ruled 147 = .ok (.iadd, 1) := by decide +kernel
theorem dX12_ruled_148 : decode cX12_ruled 148 = .ok (.iaload, 1) := by decide +kernel
theorem dX12_ruled_149 : decode cX12_ruled 149 = .ok (.iadd, 1) := by decide +kernel
theorem dX12_ruled_150 : decode cX12_ruled 150 = .ok (.iload_n 2, 1) := by decide +kernel
theorem dX12_ruled_151 : decode cX12_ruled 151 = .ok (.iload_n 3, 1) := by decide +kernel
theorem dX12_ruled_152 : decode cX12_ruled 152 = .ok (.invokevirtual 299, 3) := by decide +kernel
theorem dX12_ruled_155 : decode cX12_ruled 155 = .ok (.istore 8, 2) := by decide +kernel
theorem dX12_ruled_157 : decode cX12_ruled 157 = .ok (.iload_n 1, 1) := by decide +kernel
theorem dX12_ruled_158 : decode cX12_ruled 158 = .ok (.ifCond .eq 11, 3) := by decide +kernel
theorem dX12_ruled_161 : decode cX12_ruled 161 = .ok (.iload 5, 2) := by decide +kernel
theorem dX12_ruled_163 : decode cX12_ruled 163 = .ok (.iload 8, 2) := by decide +kernel
theorem dX12_ruled_165 : decode cX12_ruled 165 = .ok (.iadd, 1) := by decide +kernel
theorem dX12_ruled_166 : decode cX12_ruled 166 = .ok (.goto 14, 3) := by decide +kernel
theorem dX12_ruled_169 : decode cX12_ruled 169 = .ok (.iload 8, 2) := by decide +kernel
theorem dX12_ruled_171 : decode cX12_ruled 171 = .ok (.ifCond .eq 7, 3) := by decide +kernel
theorem dX12_ruled_174 : decode cX12_ruled 174 = .ok (.iconst 1, 1) := by decide +kernel
theorem dX12_ruled_175 : decode cX12_ruled 175 = .ok (.goto 5, 3) := by decide +kernel
theorem dX12_ruled_178 : decode cX12_ruled 178 = .ok (.iload 5, 2) := by decide +kernel
theorem dX12_ruled_180 : decode cX12_ruled 180 = .ok (.istore 5, 2) := by decide +kernel
theorem dX12_ruled_182 : decode cX12_ruled 182 = .ok (.iinc 6 1, 3) := by decide +kernel
theorem dX12_ruled_185 : decode cX12_ruled 185 = .ok (.goto (-114), 3) := by decide +kernel
theorem dX12_ruled_188 : decode cX12_ruled 188 = .ok (.iload 5, 2) := by decide +kernel
theorem dX12_ruled_190 : decode cX12_ruled 190 = .ok (.ireturn, 1) := by decide +kernel
def wX12_ruled_180 (k182 : Int32 → Int32 → Int32 → Int32 → Int32 → Int32 → km_S → Prop) (Q : Int32 → km_S → Prop) (l1 : Int32) (l2 : Int32) (l3 : Int32) (l4 : Int32) (l6 : Int32) (s0 : Int32) (μ : km_S) : Prop := k182 l1 l2 l3 l4 s0 l6 μ
def wX12_ruled_182 (k71 : Int32 → Int32 → Int32 → Int32 → Int32 → Int32 → km_S → Prop) (Q : Int32 → km_S → Prop) (l1 : Int32) (l2 : Int32) (l3 : Int32) (l4 : Int32) (l5 : Int32) (l6 : Int32) (μ : km_S) : Prop := ∀ v1 : Int32, v1 = l6 + 1 → k71 l1 l2 l3 l4 l5 v1 μ
def wX12_ruled_59 (k6 : Int32 → Int32 → Int32 → Int32 → Int32 → km_S → Prop) (Q : Int32 → km_S → Prop) (l1 : Int32) (l2 : Int32) (l3 : Int32) (l4 : Int32) (l5 : Int32) (μ : km_S) : Prop := ∀ v2 : Int32, v2 = l5 + 1 → k6 l1 l2 l3 l4 v2 μ
def wX12_ruled_55 (k59 : Int32 → Int32 → Int32 → Int32 → Int32 → km_S → Prop) (Q : Int32 → km_S → Prop) (l1 : Int32) (l2 : Int32) (l3 : Int32) (l5 : Int32) (μ : km_S) : Prop := k59 l1 l2 l3 l5 l5 μ
def wX12_ruled_6 (k65 : Int32 → Int32 → Int32 → Int32 → km_S → Prop) (Q : Int32 → km_S → Prop) : Nat → Int32 → Int32 → Int32 → Int32 → Int32 → km_S → Prop
  | 0, _, _, _, _, _, _ => False
  | n + 1, l1, l2, l3, l4, l5, μ => (((km_i μ 5) ≤ l5 → k65 l1 l2 l3 l4 μ) ∧
    (¬ ((km_i μ 5) ≤ l5) → vp_in l5 6 ∧ ((((km_i μ 2) / 24) < (km_a μ 53 l5.toNatClampNeg) → wX12_ruled_59 (wX12_ruled_6 k65 Q n) Q l1 l2 l3 l4 l5 μ) ∧
      (¬ (((km_i μ 2) / 24) < (km_a μ 53 l5.toNatClampNeg)) → ((l4 = (-1) → wX12_ruled_55 (wX12_ruled_59 (wX12_ruled_6 k65 Q n) Q) Q l1 l2 l3 l5 μ) ∧
        (¬ (l4 = (-1)) → vp_in l5 6 ∧ vp_in l4 6 ∧ (((km_a μ 53 l5.toNatClampNeg) < (km_a μ 53 l4.toNatClampNeg) → wX12_ruled_59 (wX12_ruled_6 k65 Q n) Q l1 l2 l3 l4 l5 μ) ∧
          (¬ ((km_a μ 53 l5.toNatClampNeg) < (km_a μ 53 l4.toNatClampNeg)) → wX12_ruled_55 (wX12_ruled_59 (wX12_ruled_6 k65 Q n) Q) Q l1 l2 l3 l5 μ))))))))
def wX12_ruled_71 (Q : Int32 → km_S → Prop) : Nat → Int32 → Int32 → Int32 → Int32 → Int32 → Int32 → km_S → Prop
  | 0, _, _, _, _, _, _, _ => False
  | n + 1, l1, l2, l3, l4, l5, l6, μ => ((l4 = (-1) → Q l5 μ) ∧
    (¬ (l4 = (-1)) → vp_in l4 6 ∧ (((km_a μ 54 l4.toNatClampNeg) ≤ l6 → Q l5 μ) ∧
      (¬ ((km_a μ 54 l4.toNatClampNeg) ≤ l6) → vp_in ((12 * l4) + l6) 72 ∧ (((km_a μ 58 ((12 * l4) + l6).toNatClampNeg) = l1 → ∀ v15, v15 = (13 * l4) + l6 → vp_in v15 78 ∧ vp_in (v15 + 1) 78 ∧ wX12_told ((900 * l4) + (km_a μ 55 v15.toNatClampNeg)) ((900 * l4) + (km_a μ 55 (v15 + 1).toNatClampNeg)) l2 l3 μ fun r19 μ18 => ((l1 = 0 → ((r19 = 0 → wX12_ruled_180 (wX12_ruled_182 (wX12_ruled_71 Q n) Q) Q l1 l2 l3 l4 l6 l5 μ18) ∧
            (¬ (r19 = 0) → wX12_ruled_180 (wX12_ruled_182 (wX12_ruled_71 Q n) Q) Q l1 l2 l3 l4 l6 1 μ18))) ∧
          (¬ (l1 = 0) → wX12_ruled_180 (wX12_ruled_182 (wX12_ruled_71 Q n) Q) Q l1 l2 l3 l4 l6 (l5 + r19) μ18))) ∧
        (¬ ((km_a μ 58 ((12 * l4) + l6).toNatClampNeg) = l1) → wX12_ruled_182 (wX12_ruled_71 Q n) Q l1 l2 l3 l4 l5 l6 μ))))))
def wX12_ruled_65 (Q : Int32 → km_S → Prop) (l1 : Int32) (l2 : Int32) (l3 : Int32) (l4 : Int32) (μ : km_S) : Prop := ∃ j, wX12_ruled_71 Q j l1 l2 l3 l4 0 0 μ
def wX12_ruled (l1 : Int32) (l2 : Int32) (l3 : Int32) (μ : km_S) (Q : Int32 → km_S → Prop) : Prop := ∃ j, wX12_ruled_6 (wX12_ruled_65 Q) Q j l1 l2 l3 (-1) 0 μ
set_option maxRecDepth 100000 in
set_option maxHeartbeats 4000000 in
theorem tX12_ruled_180 (l : Launch) (G : km_G) {p : Program} {e : Env} {s : State} {m : MethodId} {args : Array Value} {below : List Frame} {meth : Method} {c : Code} (F : CallFix p m c cX12_ruled 9 s args kt_ RX12) (hr : meth.sig.returnType = (some .int)) (hlocks : meth.locks = false) (Q : Int32 → km_S → Prop) (k182 : Int32 → Int32 → Int32 → Int32 → Int32 → Int32 → km_S → Prop) (hk182 : ∀ (l1 : Int32) (l2 : Int32) (l3 : Int32) (l4 : Int32) (l5 : Int32) (l6 : Int32) (μ : km_S) (H : Heap) (locs : List Loc) (ls : Array Slot), k182 l1 l2 l3 l4 l5 l6 μ → km_X G s H locs μ → lv_has ls 9 [(0, .ref (G.1 0)), (1, .int l1), (2, .int l2), (3, .int l3), (4, .int l4), (5, .int l5), (6, .int l6)] → W p l e { frames := 2, cells := 0, slots := 0, locals := 49 } s m args below meth c H locs 0 0 (MQ below (km_Qi G Q) args s 0 0 (km_A G)) (F0 m 182 ls [])) : ∀ (l1 : Int32) (l2 : Int32) (l3 : Int32) (l4 : Int32) (l6 : Int32) (s0 : Int32) (μ : km_S) (H : Heap) (locs : List Loc) (ls : Array Slot), wX12_ruled_180 k182 Q l1 l2 l3 l4 l6 s0 μ → km_X G s H locs μ → lv_has ls 9 [(0, .ref (G.1 0)), (1, .int l1), (2, .int l2), (3, .int l3), (4, .int l4), (6, .int l6)] → W p l e { frames := 2, cells := 0, slots := 0, locals := 49 } s m args below meth c H locs 0 0 (MQ below (km_Qi G Q) args s 0 0 (km_A G)) (F0 m 180 ls [.int s0]) := by
  intro l1 l2 l3 l4 l6 s0 μ H locs ls h C hl
  refine lv_istore (lv' := [(5, .int s0), (0, .ref (G.1 0)), (1, .int l1), (2, .int l2), (3, .int l3), (4, .int l4), (6, .int l6)]) F.1 F.2.1 dX12_ruled_180 hl (by decide) rfl (fun ls hl => ?_)
  exact hk182 l1 l2 l3 l4 s0 l6 μ H locs ls h C (lv_sub hl [1, 2, 3, 4, 5, 0, 6] rfl)
set_option maxRecDepth 100000 in
set_option maxHeartbeats 4000000 in
theorem tX12_ruled_182 (l : Launch) (G : km_G) {p : Program} {e : Env} {s : State} {m : MethodId} {args : Array Value} {below : List Frame} {meth : Method} {c : Code} (F : CallFix p m c cX12_ruled 9 s args kt_ RX12) (hr : meth.sig.returnType = (some .int)) (hlocks : meth.locks = false) (Q : Int32 → km_S → Prop) (k71 : Int32 → Int32 → Int32 → Int32 → Int32 → Int32 → km_S → Prop) (hk71 : ∀ (l1 : Int32) (l2 : Int32) (l3 : Int32) (l4 : Int32) (l5 : Int32) (l6 : Int32) (μ : km_S) (H : Heap) (locs : List Loc) (ls : Array Slot), k71 l1 l2 l3 l4 l5 l6 μ → km_X G s H locs μ → lv_has ls 9 [(0, .ref (G.1 0)), (1, .int l1), (2, .int l2), (3, .int l3), (4, .int l4), (5, .int l5), (6, .int l6)] → W p l e { frames := 2, cells := 0, slots := 0, locals := 49 } s m args below meth c H locs 0 0 (MQ below (km_Qi G Q) args s 0 0 (km_A G)) (F0 m 71 ls [])) : ∀ (l1 : Int32) (l2 : Int32) (l3 : Int32) (l4 : Int32) (l5 : Int32) (l6 : Int32) (μ : km_S) (H : Heap) (locs : List Loc) (ls : Array Slot), wX12_ruled_182 k71 Q l1 l2 l3 l4 l5 l6 μ → km_X G s H locs μ → lv_has ls 9 [(0, .ref (G.1 0)), (1, .int l1), (2, .int l2), (3, .int l3), (4, .int l4), (5, .int l5), (6, .int l6)] → W p l e { frames := 2, cells := 0, slots := 0, locals := 49 } s m args below meth c H locs 0 0 (MQ below (km_Qi G Q) args s 0 0 (km_A G)) (F0 m 182 ls []) := by
  intro l1 l2 l3 l4 l5 l6 μ H locs ls h C hl
  obtain ⟨v1, ev1⟩ : ∃ z9 : Int32, z9 = l6 + 1 := ⟨_, rfl⟩
  have h := h v1 ev1
  refine lv_iinc (v := v1) (lv' := [(6, .int v1), (0, .ref (G.1 0)), (1, .int l1), (2, .int l2), (3, .int l3), (4, .int l4), (5, .int l5)]) F.1 F.2.1 dX12_ruled_182 hl (k := 6) rfl (by rw [ev1]; rfl) (by decide) rfl (fun ls hl => ?_)
  refine lv_goto (tgt := 71) F.1 F.2.1 dX12_ruled_185 (by decide) ?_
  exact hk71 l1 l2 l3 l4 l5 v1 μ H locs ls h C (lv_sub hl [1, 2, 3, 4, 5, 6, 0] rfl)
set_option maxRecDepth 100000 in
set_option maxHeartbeats 4000000 in
theorem tX12_ruled_59 (l : Launch) (G : km_G) {p : Program} {e : Env} {s : State} {m : MethodId} {args : Array Value} {below : List Frame} {meth : Method} {c : Code} (F : CallFix p m c cX12_ruled 9 s args kt_ RX12) (hr : meth.sig.returnType = (some .int)) (hlocks : meth.locks = false) (Q : Int32 → km_S → Prop) (k6 : Int32 → Int32 → Int32 → Int32 → Int32 → km_S → Prop) (hk6 : ∀ (l1 : Int32) (l2 : Int32) (l3 : Int32) (l4 : Int32) (l5 : Int32) (μ : km_S) (H : Heap) (locs : List Loc) (ls : Array Slot), k6 l1 l2 l3 l4 l5 μ → km_X G s H locs μ → lv_has ls 9 [(0, .ref (G.1 0)), (1, .int l1), (2, .int l2), (3, .int l3), (4, .int l4), (5, .int l5)] → W p l e { frames := 2, cells := 0, slots := 0, locals := 49 } s m args below meth c H locs 0 0 (MQ below (km_Qi G Q) args s 0 0 (km_A G)) (F0 m 6 ls [])) : ∀ (l1 : Int32) (l2 : Int32) (l3 : Int32) (l4 : Int32) (l5 : Int32) (μ : km_S) (H : Heap) (locs : List Loc) (ls : Array Slot), wX12_ruled_59 k6 Q l1 l2 l3 l4 l5 μ → km_X G s H locs μ → lv_has ls 9 [(0, .ref (G.1 0)), (1, .int l1), (2, .int l2), (3, .int l3), (4, .int l4), (5, .int l5)] → W p l e { frames := 2, cells := 0, slots := 0, locals := 49 } s m args below meth c H locs 0 0 (MQ below (km_Qi G Q) args s 0 0 (km_A G)) (F0 m 59 ls []) := by
  intro l1 l2 l3 l4 l5 μ H locs ls h C hl
  obtain ⟨v2, ev2⟩ : ∃ z9 : Int32, z9 = l5 + 1 := ⟨_, rfl⟩
  have h := h v2 ev2
  refine lv_iinc (v := v2) (lv' := [(5, .int v2), (0, .ref (G.1 0)), (1, .int l1), (2, .int l2), (3, .int l3), (4, .int l4)]) F.1 F.2.1 dX12_ruled_59 hl (k := 5) rfl (by rw [ev2]; rfl) (by decide) rfl (fun ls hl => ?_)
  refine lv_goto (tgt := 6) F.1 F.2.1 dX12_ruled_62 (by decide) ?_
  exact hk6 l1 l2 l3 l4 v2 μ H locs ls h C (lv_sub hl [1, 2, 3, 4, 5, 0] rfl)
set_option maxRecDepth 100000 in
set_option maxHeartbeats 4000000 in
theorem tX12_ruled_55 (l : Launch) (G : km_G) {p : Program} {e : Env} {s : State} {m : MethodId} {args : Array Value} {below : List Frame} {meth : Method} {c : Code} (F : CallFix p m c cX12_ruled 9 s args kt_ RX12) (hr : meth.sig.returnType = (some .int)) (hlocks : meth.locks = false) (Q : Int32 → km_S → Prop) (k59 : Int32 → Int32 → Int32 → Int32 → Int32 → km_S → Prop) (hk59 : ∀ (l1 : Int32) (l2 : Int32) (l3 : Int32) (l4 : Int32) (l5 : Int32) (μ : km_S) (H : Heap) (locs : List Loc) (ls : Array Slot), k59 l1 l2 l3 l4 l5 μ → km_X G s H locs μ → lv_has ls 9 [(0, .ref (G.1 0)), (1, .int l1), (2, .int l2), (3, .int l3), (4, .int l4), (5, .int l5)] → W p l e { frames := 2, cells := 0, slots := 0, locals := 49 } s m args below meth c H locs 0 0 (MQ below (km_Qi G Q) args s 0 0 (km_A G)) (F0 m 59 ls [])) : ∀ (l1 : Int32) (l2 : Int32) (l3 : Int32) (l5 : Int32) (μ : km_S) (H : Heap) (locs : List Loc) (ls : Array Slot), wX12_ruled_55 k59 Q l1 l2 l3 l5 μ → km_X G s H locs μ → lv_has ls 9 [(0, .ref (G.1 0)), (1, .int l1), (2, .int l2), (3, .int l3), (5, .int l5)] → W p l e { frames := 2, cells := 0, slots := 0, locals := 49 } s m args below meth c H locs 0 0 (MQ below (km_Qi G Q) args s 0 0 (km_A G)) (F0 m 55 ls []) := by
  intro l1 l2 l3 l5 μ H locs ls h C hl
  refine lv_iload F.1 F.2.1 dX12_ruled_55 (lv_at hl 4 rfl) ?_
  refine lv_istore (lv' := [(4, .int l5), (0, .ref (G.1 0)), (1, .int l1), (2, .int l2), (3, .int l3), (5, .int l5)]) F.1 F.2.1 dX12_ruled_57 hl (by decide) rfl (fun ls hl => ?_)
  exact hk59 l1 l2 l3 l5 l5 μ H locs ls h C (lv_sub hl [1, 2, 3, 4, 0, 5] rfl)
set_option maxRecDepth 100000 in
set_option maxHeartbeats 4000000 in
theorem tX12_ruled_6 (l : Launch) (G : km_G) {p : Program} {e : Env} {s : State} {m : MethodId} {args : Array Value} {below : List Frame} {meth : Method} {c : Code} (F : CallFix p m c cX12_ruled 9 s args kt_ RX12) (hr : meth.sig.returnType = (some .int)) (hlocks : meth.locks = false) (Q : Int32 → km_S → Prop) (k65 : Int32 → Int32 → Int32 → Int32 → km_S → Prop) (hk65 : ∀ (l1 : Int32) (l2 : Int32) (l3 : Int32) (l4 : Int32) (μ : km_S) (H : Heap) (locs : List Loc) (ls : Array Slot), k65 l1 l2 l3 l4 μ → km_X G s H locs μ → lv_has ls 9 [(0, .ref (G.1 0)), (1, .int l1), (2, .int l2), (3, .int l3), (4, .int l4)] → W p l e { frames := 2, cells := 0, slots := 0, locals := 49 } s m args below meth c H locs 0 0 (MQ below (km_Qi G Q) args s 0 0 (km_A G)) (F0 m 65 ls [])) : ∀ (n : Nat) (l1 : Int32) (l2 : Int32) (l3 : Int32) (l4 : Int32) (l5 : Int32) (μ : km_S) (H : Heap) (locs : List Loc) (ls : Array Slot), wX12_ruled_6 k65 Q n l1 l2 l3 l4 l5 μ → km_X G s H locs μ → lv_has ls 9 [(0, .ref (G.1 0)), (1, .int l1), (2, .int l2), (3, .int l3), (4, .int l4), (5, .int l5)] → W p l e { frames := 2, cells := 0, slots := 0, locals := 49 } s m args below meth c H locs 0 0 (MQ below (km_Qi G Q) args s 0 0 (km_A G)) (F0 m 6 ls []) := by
  intro n
  induction n with
  | zero => intro l1 l2 l3 l4 l5 μ H locs ls h; exact h.elim
  | succ n ih =>
    intro l1 l2 l3 l4 l5 μ H locs ls h C hl
    refine lv_iload F.1 F.2.1 dX12_ruled_6 (lv_at hl 5 rfl) ?_
    refine lv_aload_n F.1 F.2.1 dX12_ruled_8 rfl (lv_at hl 0 rfl) ?_
    refine kg_laws F C dX12_ruled_9 ?_
    refine lv_icmp_ge (tgt := 65) F.1 F.2.1 dX12_ruled_12 (by decide) (fun c3 => ?_) (fun c3 => ?_)
    · have h := h.1 c3
      exact hk65 l1 l2 l3 l4 μ H locs ls h C (lv_sub hl [0, 1, 2, 3, 4] rfl)
    · have h := h.2 c3
      refine lv_aload_n F.1 F.2.1 dX12_ruled_15 rfl (lv_at hl 0 rfl) ?_
      refine kg_lawDay F C dX12_ruled_16 ?_
      refine lv_iload F.1 F.2.1 dX12_ruled_19 (lv_at hl 5 rfl) ?_
      obtain ⟨hn4, h⟩ := h
      refine kl_lawDay F C hn4 dX12_ruled_21 ?_
      refine lv_aload_n F.1 F.2.1 dX12_ruled_22 rfl (lv_at hl 0 rfl) ?_
      refine kg_now F C dX12_ruled_23 ?_
      refine lv_bipush (v := 24) F.1 F.2.1 dX12_ruled_26 (by decide) ?_
      refine lv_idiv (x := km_i μ 2) (y := 24) F.1 F.2.1 dX12_ruled_28 (by decide) ?_
      refine lv_icmp_gt (tgt := 59) F.1 F.2.1 dX12_ruled_29 (by decide) (fun c5 => ?_) (fun c5 => ?_)
      · have h := h.1 c5
        exact tX12_ruled_59 l G F hr hlocks Q (wX12_ruled_6 k65 Q n) (fun l1 l2 l3 l4 l5 μ9 H locs ls h C hl => ih l1 l2 l3 l4 l5 μ9 H locs ls h C hl) l1 l2 l3 l4 l5 μ H locs ls h C (lv_sub hl [0, 1, 2, 3, 4, 5] rfl)
      · have h := h.2 c5
        refine lv_iload F.1 F.2.1 dX12_ruled_32 (lv_at hl 4 rfl) ?_
        refine lv_iconst (v := (-1)) F.1 F.2.1 dX12_ruled_34 (by decide) ?_
        refine lv_icmp_eq (tgt := 55) F.1 F.2.1 dX12_ruled_35 (by decide) (fun c6 => ?_) (fun c6 => ?_)
        · have h := h.1 c6
          exact tX12_ruled_55 l G F hr hlocks Q (wX12_ruled_59 (wX12_ruled_6 k65 Q n) Q) (tX12_ruled_59 l G F hr hlocks Q (wX12_ruled_6 k65 Q n) (fun l1 l2 l3 l4 l5 μ9 H locs ls h C hl => ih l1 l2 l3 l4 l5 μ9 H locs ls h C hl)) l1 l2 l3 l5 μ H locs ls h C (lv_sub hl [0, 1, 2, 3, 5] rfl)
        · have h := h.2 c6
          refine lv_aload_n F.1 F.2.1 dX12_ruled_38 rfl (lv_at hl 0 rfl) ?_
          refine kg_lawDay F C dX12_ruled_39 ?_
          refine lv_iload F.1 F.2.1 dX12_ruled_42 (lv_at hl 5 rfl) ?_
          obtain ⟨hn7, h⟩ := h
          refine kl_lawDay F C hn7 dX12_ruled_44 ?_
          refine lv_aload_n F.1 F.2.1 dX12_ruled_45 rfl (lv_at hl 0 rfl) ?_
          refine kg_lawDay F C dX12_ruled_46 ?_
          refine lv_iload F.1 F.2.1 dX12_ruled_49 (lv_at hl 4 rfl) ?_
          obtain ⟨hn8, h⟩ := h
          refine kl_lawDay F C hn8 dX12_ruled_51 ?_
          refine lv_icmp_lt (tgt := 59) F.1 F.2.1 dX12_ruled_52 (by decide) (fun c9 => ?_) (fun c9 => ?_)
          · have h := h.1 c9
            exact tX12_ruled_59 l G F hr hlocks Q (wX12_ruled_6 k65 Q n) (fun l1 l2 l3 l4 l5 μ9 H locs ls h C hl => ih l1 l2 l3 l4 l5 μ9 H locs ls h C hl) l1 l2 l3 l4 l5 μ H locs ls h C (lv_sub hl [0, 1, 2, 3, 4, 5] rfl)
          · have h := h.2 c9
            exact tX12_ruled_55 l G F hr hlocks Q (wX12_ruled_59 (wX12_ruled_6 k65 Q n) Q) (tX12_ruled_59 l G F hr hlocks Q (wX12_ruled_6 k65 Q n) (fun l1 l2 l3 l4 l5 μ9 H locs ls h C hl => ih l1 l2 l3 l4 l5 μ9 H locs ls h C hl)) l1 l2 l3 l5 μ H locs ls h C (lv_sub hl [0, 1, 2, 3, 5] rfl)
set_option maxRecDepth 100000 in
set_option maxHeartbeats 4000000 in
theorem tX12_ruled_71 (l : Launch) (G : km_G) {p : Program} {e : Env} {s : State} {m : MethodId} {args : Array Value} {below : List Frame} {meth : Method} {c : Code} (F : CallFix p m c cX12_ruled 9 s args kt_ RX12) (hr : meth.sig.returnType = (some .int)) (hlocks : meth.locks = false) (Q : Int32 → km_S → Prop) : ∀ (n : Nat) (l1 : Int32) (l2 : Int32) (l3 : Int32) (l4 : Int32) (l5 : Int32) (l6 : Int32) (μ : km_S) (H : Heap) (locs : List Loc) (ls : Array Slot), wX12_ruled_71 Q n l1 l2 l3 l4 l5 l6 μ → km_X G s H locs μ → lv_has ls 9 [(0, .ref (G.1 0)), (1, .int l1), (2, .int l2), (3, .int l3), (4, .int l4), (5, .int l5), (6, .int l6)] → W p l e { frames := 2, cells := 0, slots := 0, locals := 49 } s m args below meth c H locs 0 0 (MQ below (km_Qi G Q) args s 0 0 (km_A G)) (F0 m 71 ls []) := by
  intro n
  induction n with
  | zero => intro l1 l2 l3 l4 l5 l6 μ H locs ls h; exact h.elim
  | succ n ih =>
    intro l1 l2 l3 l4 l5 l6 μ H locs ls h C hl
    refine lv_iload F.1 F.2.1 dX12_ruled_71 (lv_at hl 4 rfl) ?_
    refine lv_iconst (v := (-1)) F.1 F.2.1 dX12_ruled_73 (by decide) ?_
    refine lv_icmp_eq (tgt := 188) F.1 F.2.1 dX12_ruled_74 (by decide) (fun c10 => ?_) (fun c10 => ?_)
    · have h := h.1 c10
      refine lv_iload F.1 F.2.1 dX12_ruled_188 (lv_at hl 5 rfl) ?_
      exact km_iret F C hr hlocks h dX12_ruled_190
    · have h := h.2 c10
      refine lv_iload F.1 F.2.1 dX12_ruled_77 (lv_at hl 6 rfl) ?_
      refine lv_aload_n F.1 F.2.1 dX12_ruled_79 rfl (lv_at hl 0 rfl) ?_
      refine kg_ruleMany F C dX12_ruled_80 ?_
      refine lv_iload F.1 F.2.1 dX12_ruled_83 (lv_at hl 4 rfl) ?_
      obtain ⟨hn11, h⟩ := h
      refine kl_ruleMany F C hn11 dX12_ruled_85 ?_
      refine lv_icmp_ge (tgt := 188) F.1 F.2.1 dX12_ruled_86 (by decide) (fun c12 => ?_) (fun c12 => ?_)
      · have h := h.1 c12
        refine lv_iload F.1 F.2.1 dX12_ruled_188 (lv_at hl 5 rfl) ?_
        exact km_iret F C hr hlocks h dX12_ruled_190
      · have h := h.2 c12
        refine lv_aload_n F.1 F.2.1 dX12_ruled_89 rfl (lv_at hl 0 rfl) ?_
        refine kg_isToll F C dX12_ruled_90 ?_
        refine lv_bipush (v := 12) F.1 F.2.1 dX12_ruled_93 (by decide) ?_
        refine lv_iload F.1 F.2.1 dX12_ruled_95 (lv_at hl 4 rfl) ?_
        refine lv_imul (x := 12) (y := l4) F.1 F.2.1 dX12_ruled_97 ?_
        refine lv_iload F.1 F.2.1 dX12_ruled_98 (lv_at hl 6 rfl) ?_
        refine lv_iadd (x := 12 * l4) (y := l6) F.1 F.2.1 dX12_ruled_100 ?_
        obtain ⟨hn13, h⟩ := h
        refine kl_isToll F C hn13 dX12_ruled_101 ?_
        refine lv_iload_n F.1 F.2.1 dX12_ruled_102 rfl (lv_at hl 1 rfl) ?_
        refine lv_icmp_eq (tgt := 109) F.1 F.2.1 dX12_ruled_103 (by decide) (fun c14 => ?_) (fun c14 => ?_)
        · have h := h.1 c14
          refine lv_bipush (v := 13) F.1 F.2.1 dX12_ruled_109 (by decide) ?_
          refine lv_iload F.1 F.2.1 dX12_ruled_111 (lv_at hl 4 rfl) ?_
          refine lv_imul (x := 13) (y := l4) F.1 F.2.1 dX12_ruled_113 ?_
          refine lv_iload F.1 F.2.1 dX12_ruled_114 (lv_at hl 6 rfl) ?_
          refine lv_iadd (x := 13 * l4) (y := l6) F.1 F.2.1 dX12_ruled_116 ?_
          refine lv_topi (fun v15 ev15 => ?_)
          have h := h v15 ev15
          refine lv_istore (lv' := [(7, .int v15), (0, .ref (G.1 0)), (1, .int l1), (2, .int l2), (3, .int l3), (4, .int l4), (5, .int l5), (6, .int l6)]) F.1 F.2.1 dX12_ruled_117 hl (by decide) rfl (fun ls hl => ?_)
          refine lv_aload_n F.1 F.2.1 dX12_ruled_119 rfl (lv_at hl 1 rfl) ?_
          refine lv_sipush (v := 900) F.1 F.2.1 dX12_ruled_120 (by decide) ?_
          refine lv_iload F.1 F.2.1 dX12_ruled_123 (lv_at hl 5 rfl) ?_
          refine lv_imul (x := 900) (y := l4) F.1 F.2.1 dX12_ruled_125 ?_
          refine lv_aload_n F.1 F.2.1 dX12_ruled_126 rfl (lv_at hl 1 rfl) ?_
          refine kg_ruleFrom F C dX12_ruled_127 ?_
          refine lv_iload F.1 F.2.1 dX12_ruled_130 (lv_at hl 0 rfl) ?_
          obtain ⟨hn16, h⟩ := h
          refine kl_ruleFrom F C hn16 dX12_ruled_132 ?_
          refine lv_iadd (x := 900 * l4) (y := km_a μ 55 v15.toNatClampNeg) F.1 F.2.1 dX12_ruled_133 ?_
          refine lv_sipush (v := 900) F.1 F.2.1 dX12_ruled_134 (by decide) ?_
          refine lv_iload F.1 F.2.1 dX12_ruled_137 (lv_at hl 5 rfl) ?_
          refine lv_imul (x := 900) (y := l4) F.1 F.2.1 dX12_ruled_139 ?_
          refine lv_aload_n F.1 F.2.1 dX12_ruled_140 rfl (lv_at hl 1 rfl) ?_
          refine kg_ruleFrom F C dX12_ruled_141 ?_
          refine lv_iload F.1 F.2.1 dX12_ruled_144 (lv_at hl 0 rfl) ?_
          refine lv_iconst (v := 1) F.1 F.2.1 dX12_ruled_146 (by decide) ?_
          refine lv_iadd (x := v15) (y := 1) F.1 F.2.1 dX12_ruled_147 ?_
          obtain ⟨hn17, h⟩ := h
          refine kl_ruleFrom F C hn17 dX12_ruled_148 ?_
          refine lv_iadd (x := 900 * l4) (y := km_a μ 55 (v15 + 1).toNatClampNeg) F.1 F.2.1 dX12_ruled_149 ?_
          refine lv_iload_n F.1 F.2.1 dX12_ruled_150 rfl (lv_at hl 3 rfl) ?_
          refine lv_iload_n F.1 F.2.1 dX12_ruled_151 rfl (lv_at hl 4 rfl) ?_
          refine kc_X12_told F C h (Nat.le_of_ble_eq_true rfl) (Nat.le_of_ble_eq_true rfl) hl.1 (by simp [Value.category]) dX12_ruled_152 (fun r19 μ18 H locs h C => ?_)
          refine lv_istore (lv' := [(8, .int r19), (7, .int v15), (0, .ref (G.1 0)), (1, .int l1), (2, .int l2), (3, .int l3), (4, .int l4), (5, .int l5), (6, .int l6)]) F.1 F.2.1 dX12_ruled_155 hl (by decide) rfl (fun ls hl => ?_)
          refine lv_iload_n F.1 F.2.1 dX12_ruled_157 rfl (lv_at hl 3 rfl) ?_
          refine lv_if_eq (tgt := 169) F.1 F.2.1 dX12_ruled_158 (by decide) (fun c20 => ?_) (fun c20 => ?_)
          · have h := h.1 c20
            refine lv_iload F.1 F.2.1 dX12_ruled_169 (lv_at hl 0 rfl) ?_
            refine lv_if_eq (tgt := 178) F.1 F.2.1 dX12_ruled_171 (by decide) (fun c21 => ?_) (fun c21 => ?_)
            · have h := h.1 c21
              refine lv_iload F.1 F.2.1 dX12_ruled_178 (lv_at hl 7 rfl) ?_
              exact tX12_ruled_180 l G F hr hlocks Q (wX12_ruled_182 (wX12_ruled_71 Q n) Q) (tX12_ruled_182 l G F hr hlocks Q (wX12_ruled_71 Q n) (fun l1 l2 l3 l4 l5 l6 μ9 H locs ls h C hl => ih l1 l2 l3 l4 l5 l6 μ9 H locs ls h C hl)) l1 l2 l3 l4 l6 l5 μ18 H locs ls h C (lv_sub hl [2, 3, 4, 5, 6, 8] rfl)
            · have h := h.2 c21
              refine lv_iconst (v := 1) F.1 F.2.1 dX12_ruled_174 (by decide) ?_
              refine lv_goto (tgt := 180) F.1 F.2.1 dX12_ruled_175 (by decide) ?_
              exact tX12_ruled_180 l G F hr hlocks Q (wX12_ruled_182 (wX12_ruled_71 Q n) Q) (tX12_ruled_182 l G F hr hlocks Q (wX12_ruled_71 Q n) (fun l1 l2 l3 l4 l5 l6 μ9 H locs ls h C hl => ih l1 l2 l3 l4 l5 l6 μ9 H locs ls h C hl)) l1 l2 l3 l4 l6 1 μ18 H locs ls h C (lv_sub hl [2, 3, 4, 5, 6, 8] rfl)
          · have h := h.2 c20
            refine lv_iload F.1 F.2.1 dX12_ruled_161 (lv_at hl 7 rfl) ?_
            refine lv_iload F.1 F.2.1 dX12_ruled_163 (lv_at hl 0 rfl) ?_
            refine lv_iadd (x := l5) (y := r19) F.1 F.2.1 dX12_ruled_165 ?_
            refine lv_goto (tgt := 180) F.1 F.2.1 dX12_ruled_166 (by decide) ?_
            exact tX12_ruled_180 l G F hr hlocks Q (wX12_ruled_182 (wX12_ruled_71 Q n) Q) (tX12_ruled_182 l G F hr hlocks Q (wX12_ruled_71 Q n) (fun l1 l2 l3 l4 l5 l6 μ9 H locs ls h C hl => ih l1 l2 l3 l4 l5 l6 μ9 H locs ls h C hl)) l1 l2 l3 l4 l6 (l5 + r19) μ18 H locs ls h C (lv_sub hl [2, 3, 4, 5, 6, 8] rfl)
        · have h := h.2 c14
          refine lv_goto (tgt := 182) F.1 F.2.1 dX12_ruled_106 (by decide) ?_
          exact tX12_ruled_182 l G F hr hlocks Q (wX12_ruled_71 Q n) (fun l1 l2 l3 l4 l5 l6 μ9 H locs ls h C hl => ih l1 l2 l3 l4 l5 l6 μ9 H locs ls h C hl) l1 l2 l3 l4 l5 l6 μ H locs ls h C (lv_sub hl [0, 1, 2, 3, 4, 5, 6] rfl)
set_option maxRecDepth 100000 in
set_option maxHeartbeats 4000000 in
theorem tX12_ruled_65 (l : Launch) (G : km_G) {p : Program} {e : Env} {s : State} {m : MethodId} {args : Array Value} {below : List Frame} {meth : Method} {c : Code} (F : CallFix p m c cX12_ruled 9 s args kt_ RX12) (hr : meth.sig.returnType = (some .int)) (hlocks : meth.locks = false) (Q : Int32 → km_S → Prop) : ∀ (l1 : Int32) (l2 : Int32) (l3 : Int32) (l4 : Int32) (μ : km_S) (H : Heap) (locs : List Loc) (ls : Array Slot), wX12_ruled_65 Q l1 l2 l3 l4 μ → km_X G s H locs μ → lv_has ls 9 [(0, .ref (G.1 0)), (1, .int l1), (2, .int l2), (3, .int l3), (4, .int l4)] → W p l e { frames := 2, cells := 0, slots := 0, locals := 49 } s m args below meth c H locs 0 0 (MQ below (km_Qi G Q) args s 0 0 (km_A G)) (F0 m 65 ls []) := by
  intro l1 l2 l3 l4 μ H locs ls h C hl
  refine lv_iconst (v := 0) F.1 F.2.1 dX12_ruled_65 (by decide) ?_
  refine lv_istore (lv' := [(5, .int 0), (0, .ref (G.1 0)), (1, .int l1), (2, .int l2), (3, .int l3), (4, .int l4)]) F.1 F.2.1 dX12_ruled_66 hl (by decide) rfl (fun ls hl => ?_)
  refine lv_iconst (v := 0) F.1 F.2.1 dX12_ruled_68 (by decide) ?_
  refine lv_istore (lv' := [(6, .int 0), (5, .int 0), (0, .ref (G.1 0)), (1, .int l1), (2, .int l2), (3, .int l3), (4, .int l4)]) F.1 F.2.1 dX12_ruled_69 hl (by decide) rfl (fun ls hl => ?_)
  obtain ⟨n22, h⟩ := h
  exact tX12_ruled_71 l G F hr hlocks Q n22 l1 l2 l3 l4 0 0 μ H locs ls h C (lv_sub hl [2, 3, 4, 5, 6, 1, 0] rfl)
set_option maxRecDepth 100000 in
set_option maxHeartbeats 4000000 in
theorem hc_X12_ruled (l : Launch) (G : km_G) (l1 : Int32) (l2 : Int32) (l3 : Int32) (μ : km_S) (Q : Int32 → km_S → Prop) (h : wX12_ruled l1 l2 l3 μ Q) : km_M l G yX12_ruled cX12_ruled 9 (some .int) (2) (49) [.ref (G.1 0), .int l1, .int l2, .int l3] μ (km_Qi G Q) := by
  refine km_enter (by decide) rfl (Nat.le_of_ble_eq_true rfl) ?_
  intro p e s m below meth c ls F hr hlocks C hl
  have hl : lv_has ls 9 [(0, .ref (G.1 0)), (1, .int l1), (2, .int l2), (3, .int l3)] := hl
  obtain ⟨H, eH⟩ : ∃ z9, z9 = s.heap := ⟨_, rfl⟩
  obtain ⟨locs, eL⟩ : ∃ z9 : List Loc, z9 = [] := ⟨_, rfl⟩
  rw [← eH, ← eL] at C
  rw [← eH, ← eL]
  refine lv_iconst (v := (-1)) F.1 F.2.1 dX12_ruled_0 (by decide) ?_
  refine lv_istore (lv' := [(4, .int (-1)), (0, .ref (G.1 0)), (1, .int l1), (2, .int l2), (3, .int l3)]) F.1 F.2.1 dX12_ruled_1 hl (by decide) rfl (fun ls hl => ?_)
  refine lv_iconst (v := 0) F.1 F.2.1 dX12_ruled_3 (by decide) ?_
  refine lv_istore (lv' := [(5, .int 0), (4, .int (-1)), (0, .ref (G.1 0)), (1, .int l1), (2, .int l2), (3, .int l3)]) F.1 F.2.1 dX12_ruled_4 hl (by decide) rfl (fun ls hl => ?_)
  obtain ⟨n23, h⟩ := h
  exact tX12_ruled_6 l G F hr hlocks Q (wX12_ruled_65 Q) (tX12_ruled_65 l G F hr hlocks Q) n23 l1 l2 l3 (-1) 0 μ H locs ls h C (lv_sub hl [2, 3, 4, 5, 1, 0] rfl)
section
variable {p : Program} {l : Launch} {e : Env} {R : Room} {s : State} {m : MethodId} {args : Array Value} {below : List Frame} {meth : Method} {c : Code} {H : Heap} {locs : List Loc} {Q : State → Prop}
variable {cc : ByteArray} {pc nL : Nat} {ls : Array Slot} {rest : List Value} {G : km_G} {μ : km_S}
theorem kc_X12_ruled (F : CallFix p m c cc nL s args kt_ RX12) (C : km_X G s H locs μ) {P : Int32 → km_S → Prop} {l1 : Int32} {l2 : Int32} {l3 : Int32} (h : wX12_ruled l1 l2 l3 μ P) (h1 : (2) + 1 ≤ R.frames) (h2 : 8 + (9 + 11) + (49) ≤ R.locals) (hsz : ls.size = nL) (hW : (rest.map fun v => v.category).sum ≤ 8) (hdg : decode cc pc = .ok (.invokevirtual 318, 3)) (kk : ∀ (r : Int32) (μ' : km_S) (H1 : Heap) (locs1 : List Loc), P r μ' → km_X G s H1 locs1 μ' → W p l e R s m args below meth c H1 locs1 0 0 Q (F0 m (pc + 3) ls (.int r :: rest))) : W p l e R s m args below meth c H locs 0 0 Q (F0 m pc ls (.int l3 :: .int l2 :: .int l1 :: .ref (G.1 0) :: rest)) :=
  km_cVi (n := 3) (As := [.int l1, .int l2, .int l3]) F C (hc_X12_ruled l G l1 l2 l3 μ P h) (kt_V tw_220 tw_221 tw_222 tw_151 tw_223) (by decide +kernel) ⟨h1, h2⟩ rfl hsz hW hdg kk
end
theorem dX12_let_0 : decode cX12_let 0 = .ok (.aload_n 0, 1) := by decide +kernel
theorem dX12_let_1 : decode cX12_let 1 = .ok (.iconst 0, 1) := by decide +kernel
theorem dX12_let_2 : decode cX12_let 2 = .ok (.putfield 173, 3) := by decide +kernel
theorem dX12_let_5 : decode cX12_let 5 = .ok (.aload_n 0, 1) := by decide +kernel
theorem dX12_let_6 : decode cX12_let 6 = .ok (.iload_n 1, 1) := by decide +kernel
theorem dX12_let_7 : decode cX12_let 7 = .ok (.invokevirtual 311, 3) := by decide +kernel
theorem dX12_let_10 : decode cX12_let 10 = .ok (.ifCond .eq 12, 3) := by decide +kernel
theorem dX12_let_13 : decode cX12_let 13 = .ok (.aload_n 0, 1) := by decide +kernel
theorem dX12_let_14 : decode cX12_let 14 = .ok (.iload_n 2, 1) := by decide +kernel
theorem dX12_let_15 : decode cX12_let 15 = .ok (.iload_n 3, 1) := by decide +kernel
theorem dX12_let_16 : decode cX12_let 16 = .ok (.invokevirtual 314, 3) := by decide +kernel
theorem dX12_let_19 : decode cX12_let 19 = .ok (.ifCond .ne 8, 3) := by decide +kernel
theorem dX12_let_22 : decode cX12_let 22 = .ok (.aload_n 0, 1) := by decide +kernel
theorem dX12_let_23 : decode cX12_let 23 = .ok (.invokevirtual 183, 3) := by decide +kernel
theorem dX12_let_26 : decode cX12_let 26 = .ok (.ireturn, 1) := by decide +kernel
theorem dX12_let_27 : decode cX12_let 27 = .ok (.aload_n 0, 1) := by decide +kernel
theorem dX12_let_28 : decode cX12_let 28 = .ok (.getfield 107, 3) := by decide +kernel
theorem dX12_let_31 : decode cX12_let 31 = .ok (.iload_n 1, 1) := by decide +kernel
theorem dX12_let_32 : decode cX12_let 32 = .ok (.iaload, 1) := by decide +kernel
theorem dX12_let_33 : decode cX12_let 33 = .ok (.ifCond .eq 5, 3) := by decide +kernel
theorem dX12_let_36 : decode cX12_let 36 = .ok (.iconst 1, 1) := by decide +kernel
theorem dX12_let_37 : decode cX12_let 37 = .ok (.ireturn, 1) := by decide +kernel
theorem dX12_let_38 : decode cX12_let 38 = .ok (.aload_n 0, 1) := by decide +kernel
theorem dX12_let_39 : decode cX12_let 39 = .ok (.iconst 0, 1) := by decide +kernel
theorem dX12_let_40 : decode cX12_let 40 = .ok (.iload_n 1, 1) := by decide +kernel
theorem dX12_let_41 : decode cX12_let 41 = .ok (.iload_n 2, 1) := by decide +kernel
theorem dX12_let_42 : decode cX12_let 42 = .ok (.invokevirtual 318, 3) := by decide +kernel
theorem dX12_let_45 : decode cX12_let 45 = .ok (.ifCond .eq 5, 3) := by decide +kernel
theorem dX12_let_48 : decode cX12_let 48 = .ok (.iconst 2, 1) := by decide +kernel
theorem dX12_let_49 : decode cX12_let 49 = .ok (.ireturn, 1) := by decide +kernel
theorem dX12_let_50 : decode cX12_let 50 = .ok (.aload_n 0, 1) := by decide +kernel
theorem dX12_let_51 : decode cX12_let 51 = .ok (.iload_n 2, 1) := by decide +kernel
theorem dX12_let_52 : decode cX12_let 52 = .ok (.iload_n 3, 1) := by decide +kernel
theorem dX12_let_53 : decode cX12_let 53 = .ok (.invokevirtual 322, 3) := by decide +kernel
theorem dX12_let_56 : decode cX12_let 56 = .ok (.ifCond .ne 5, 3) := by decide +kernel
theorem dX12_let_59 : decode cX12_let 59 = .ok (.iconst 3, 1) := by decide +kernel
theorem dX12_let_60 : decode cX12_let 60 = .ok (.ireturn, 1) := by decide +kernel
theorem dX12_let_61 : decode cX12_let 61 = .ok (.aload_n 0, 1) := by decide +kernel
theorem dX12_let_62 : decode cX12_let 62 = .ok (.getfield 107, 3) := by decide +kernel
theorem dX12_let_65 : decode cX12_let 65 = .ok (.iload_n 1, 1) := by decide +kernel
theorem dX12_let_66 : decode cX12_let 66 = .ok (.iconst 1, 1) := by decide +kernel
theorem dX12_let_67 : decode cX12_let 67 = .ok (.iastore, 1) := by decide +kernel
theorem dX12_let_68 : decode cX12_let 68 = .ok (.aload_n 0, 1) := by decide +kernel
theorem dX12_let_69 : decode cX12_let 69 = .ok (.iload_n 1, 1) := by decide +kernel
theorem dX12_let_70 : decode cX12_let 70 = .ok (.iload_n 2, 1) := by decide +kernel
theorem dX12_let_71 : decode cX12_let 71 = .ok (.iload_n 3, 1) := by decide +kernel
theorem dX12_let_72 : decode cX12_let 72 = .ok (.invokevirtual 325, 3) := by decide +kernel
theorem dX12_let_75 : decode cX12_let 75 = .ok (.iconst 0, 1) := by decide +kernel
theorem dX12_let_76 : decode cX12_let 76 = .ok (.ireturn, 1) := by decide +kernel
def wX12_let_22 (Q : Int32 → km_S → Prop) (μ : km_S) : Prop := wX12_fail μ fun r2 μ1 => Q r2 μ1
def wX12_let (l1 : Int32) (l2 : Int32) (l3 : Int32) (μ : km_S) (Q : Int32 → km_S → Prop) : Prop := ∀ μ3, μ3 = km_si μ 1 0 → wX12_isLog l1 μ3 fun r5 μ4 => ((r5 = 0 → wX12_let_22 Q μ4) ∧
  (¬ (r5 = 0) → wX12_isCell l2 l3 μ4 fun r8 μ7 => ((¬ r8 = 0 → vp_in l1 400 ∧ (((km_a μ7 38 l1.toNatClampNeg) = 0 → wX12_ruled 0 l1 l2 μ7 fun r13 μ12 => ((r13 = 0 → wX12_isOpen l2 l3 μ12 fun r16 μ15 => ((¬ r16 = 0 → vp_in l1 400 ∧ ∀ μ19, μ19 = km_sa μ15 38 l1.toNatClampNeg 1 → wX12_lay l1 l2 l3 μ19 fun μ20 => Q 0 μ20) ∧
          (r16 = 0 → Q 3 μ15))) ∧
        (¬ (r13 = 0) → Q 2 μ12))) ∧
      (¬ ((km_a μ7 38 l1.toNatClampNeg) = 0) → Q 1 μ7))) ∧
    (r8 = 0 → wX12_let_22 Q μ7))))
set_option maxRecDepth 100000 in
set_option maxHeartbeats 4000000 in
theorem tX12_let_22 (l : Launch) (G : km_G) {p : Program} {e : Env} {s : State} {m : MethodId} {args : Array Value} {below : List Frame} {meth : Method} {c : Code} (F : CallFix p m c cX12_let 4 s args kt_ RX12) (hr : meth.sig.returnType = (some .int)) (hlocks : meth.locks = false) (Q : Int32 → km_S → Prop) : ∀ (μ : km_S) (H : Heap) (locs : List Loc) (ls : Array Slot), wX12_let_22 Q μ → km_X G s H locs μ → lv_has ls 4 [(0, .ref (G.1 0))] → W p l e { frames := 3, cells := 0, slots := 0, locals := 77 } s m args below meth c H locs 0 0 (MQ below (km_Qi G Q) args s 0 0 (km_A G)) (F0 m 22 ls []) := by
  intro  μ H locs ls h C hl
  refine lv_aload_n F.1 F.2.1 dX12_let_22 rfl (lv_at hl 0 rfl) ?_
  refine kc_X12_fail F C h (Nat.le_of_ble_eq_true rfl) (Nat.le_of_ble_eq_true rfl) hl.1 (by simp [Value.category]) dX12_let_23 (fun r2 μ1 H locs h C => ?_)
  exact km_iret F C hr hlocks h dX12_let_26
set_option maxRecDepth 100000 in
set_option maxHeartbeats 4000000 in
theorem hc_X12_let (l : Launch) (G : km_G) (l1 : Int32) (l2 : Int32) (l3 : Int32) (μ : km_S) (Q : Int32 → km_S → Prop) (h : wX12_let l1 l2 l3 μ Q) : km_M l G yX12_let cX12_let 4 (some .int) (3) (77) [.ref (G.1 0), .int l1, .int l2, .int l3] μ (km_Qi G Q) := by
  refine km_enter (by decide) rfl (Nat.le_of_ble_eq_true rfl) ?_
  intro p e s m below meth c ls F hr hlocks C hl
  have hl : lv_has ls 4 [(0, .ref (G.1 0)), (1, .int l1), (2, .int l2), (3, .int l3)] := hl
  obtain ⟨H, eH⟩ : ∃ z9, z9 = s.heap := ⟨_, rfl⟩
  obtain ⟨locs, eL⟩ : ∃ z9 : List Loc, z9 = [] := ⟨_, rfl⟩
  rw [← eH, ← eL] at C
  rw [← eH, ← eL]
  refine lv_aload_n F.1 F.2.1 dX12_let_0 rfl (lv_at hl 0 rfl) ?_
  refine lv_iconst (v := 0) F.1 F.2.1 dX12_let_1 (by decide) ?_
  refine kp_code F C dX12_let_2 (fun H locs C => ?_)
  generalize eμ3 : km_si μ 1 0 = μ3 at C
  have h := h μ3 eμ3.symm
  refine lv_aload_n F.1 F.2.1 dX12_let_5 rfl (lv_at hl 0 rfl) ?_
  refine lv_iload_n F.1 F.2.1 dX12_let_6 rfl (lv_at hl 1 rfl) ?_
  refine kc_X12_isLog F C h (Nat.le_of_ble_eq_true rfl) (Nat.le_of_ble_eq_true rfl) hl.1 (by simp [Value.category]) dX12_let_7 (fun r5 μ4 H locs h C => ?_)
  refine lv_if_eq (tgt := 22) F.1 F.2.1 dX12_let_10 (by decide) (fun c6 => ?_) (fun c6 => ?_)
  · have h := h.1 c6
    exact tX12_let_22 l G F hr hlocks Q μ4 H locs ls h C (lv_sub hl [0] rfl)
  · have h := h.2 c6
    refine lv_aload_n F.1 F.2.1 dX12_let_13 rfl (lv_at hl 0 rfl) ?_
    refine lv_iload_n F.1 F.2.1 dX12_let_14 rfl (lv_at hl 2 rfl) ?_
    refine lv_iload_n F.1 F.2.1 dX12_let_15 rfl (lv_at hl 3 rfl) ?_
    refine kc_X12_isCell F C h (Nat.le_of_ble_eq_true rfl) (Nat.le_of_ble_eq_true rfl) hl.1 (by simp [Value.category]) dX12_let_16 (fun r8 μ7 H locs h C => ?_)
    refine lv_if_ne (tgt := 27) F.1 F.2.1 dX12_let_19 (by decide) (fun c9 => ?_) (fun c9 => ?_)
    · have h := h.1 c9
      refine lv_aload_n F.1 F.2.1 dX12_let_27 rfl (lv_at hl 0 rfl) ?_
      refine kg_place F C dX12_let_28 ?_
      refine lv_iload_n F.1 F.2.1 dX12_let_31 rfl (lv_at hl 1 rfl) ?_
      obtain ⟨hn10, h⟩ := h
      refine kl_place F C hn10 dX12_let_32 ?_
      refine lv_if_eq (tgt := 38) F.1 F.2.1 dX12_let_33 (by decide) (fun c11 => ?_) (fun c11 => ?_)
      · have h := h.1 c11
        refine lv_aload_n F.1 F.2.1 dX12_let_38 rfl (lv_at hl 0 rfl) ?_
        refine lv_iconst (v := 0) F.1 F.2.1 dX12_let_39 (by decide) ?_
        refine lv_iload_n F.1 F.2.1 dX12_let_40 rfl (lv_at hl 1 rfl) ?_
        refine lv_iload_n F.1 F.2.1 dX12_let_41 rfl (lv_at hl 2 rfl) ?_
        refine kc_X12_ruled F C h (Nat.le_of_ble_eq_true rfl) (Nat.le_of_ble_eq_true rfl) hl.1 (by simp [Value.category]) dX12_let_42 (fun r13 μ12 H locs h C => ?_)
        refine lv_if_eq (tgt := 50) F.1 F.2.1 dX12_let_45 (by decide) (fun c14 => ?_) (fun c14 => ?_)
        · have h := h.1 c14
          refine lv_aload_n F.1 F.2.1 dX12_let_50 rfl (lv_at hl 0 rfl) ?_
          refine lv_iload_n F.1 F.2.1 dX12_let_51 rfl (lv_at hl 2 rfl) ?_
          refine lv_iload_n F.1 F.2.1 dX12_let_52 rfl (lv_at hl 3 rfl) ?_
          refine kc_X12_isOpen F C h (Nat.le_of_ble_eq_true rfl) (Nat.le_of_ble_eq_true rfl) hl.1 (by simp [Value.category]) dX12_let_53 (fun r16 μ15 H locs h C => ?_)
          refine lv_if_ne (tgt := 61) F.1 F.2.1 dX12_let_56 (by decide) (fun c17 => ?_) (fun c17 => ?_)
          · have h := h.1 c17
            refine lv_aload_n F.1 F.2.1 dX12_let_61 rfl (lv_at hl 0 rfl) ?_
            refine kg_place F C dX12_let_62 ?_
            refine lv_iload_n F.1 F.2.1 dX12_let_65 rfl (lv_at hl 1 rfl) ?_
            refine lv_iconst (v := 1) F.1 F.2.1 dX12_let_66 (by decide) ?_
            obtain ⟨hn18, h⟩ := h
            refine kq_place F C hn18 dX12_let_67 (fun H locs C => ?_)
            generalize eμ19 : km_sa μ15 38 l1.toNatClampNeg 1 = μ19 at C
            have h := h μ19 eμ19.symm
            refine lv_aload_n F.1 F.2.1 dX12_let_68 rfl (lv_at hl 0 rfl) ?_
            refine lv_iload_n F.1 F.2.1 dX12_let_69 rfl (lv_at hl 1 rfl) ?_
            refine lv_iload_n F.1 F.2.1 dX12_let_70 rfl (lv_at hl 2 rfl) ?_
            refine lv_iload_n F.1 F.2.1 dX12_let_71 rfl (lv_at hl 3 rfl) ?_
            refine kc_X12_lay F C h (Nat.le_of_ble_eq_true rfl) (Nat.le_of_ble_eq_true rfl) hl.1 (by simp [Value.category]) dX12_let_72 (fun μ20 H locs h C => ?_)
            refine lv_iconst (v := 0) F.1 F.2.1 dX12_let_75 (by decide) ?_
            exact km_iret F C hr hlocks h dX12_let_76
          · have h := h.2 c17
            refine lv_iconst (v := 3) F.1 F.2.1 dX12_let_59 (by decide) ?_
            exact km_iret F C hr hlocks h dX12_let_60
        · have h := h.2 c14
          refine lv_iconst (v := 2) F.1 F.2.1 dX12_let_48 (by decide) ?_
          exact km_iret F C hr hlocks h dX12_let_49
      · have h := h.2 c11
        refine lv_iconst (v := 1) F.1 F.2.1 dX12_let_36 (by decide) ?_
        exact km_iret F C hr hlocks h dX12_let_37
    · have h := h.2 c9
      exact tX12_let_22 l G F hr hlocks Q μ7 H locs ls h C (lv_sub hl [0] rfl)
section
variable {p : Program} {l : Launch} {e : Env} {R : Room} {s : State} {m : MethodId} {args : Array Value} {below : List Frame} {meth : Method} {c : Code} {H : Heap} {locs : List Loc} {Q : State → Prop}
variable {cc : ByteArray} {pc nL : Nat} {ls : Array Slot} {rest : List Value} {G : km_G} {μ : km_S}
end

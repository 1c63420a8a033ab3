theorem ux_125 : Cond.code yJ3_checkIndex_8e157 cJ3_checkIndex_8e157 3 (some .int) ∈ kt_ := kt_m (kt_t1 _ (List.mem_of_getElem? (i := 230) (by decide +kernel))) (by decide +kernel)
theorem ux_126 : Cond.initialized RJ3 ∈ kt_ := kt_m (kt_t1 _ (List.mem_of_getElem? (i := 11) (by decide +kernel))) (by decide +kernel)
theorem ux_127 : Cond.static yJ3_checkIndex_8e157 ∈ kt_ := kt_m (kt_t1 _ (List.mem_of_getElem? (i := 229) (by decide +kernel))) (by decide +kernel)
theorem ux_128 : Cond.methodLink RJ15 105 yJ3_checkIndex_8e157 ∈ kt_ := kt_m (kt_t1 _ (List.mem_of_getElem? (i := 228) (by decide +kernel))) (by decide +kernel)
theorem ux_129 : Cond.code yJ15_checkIndex_7cf53 cJ15_checkIndex_7cf53 2 (some .int) ∈ kt_ := kt_m (kt_t1 _ (List.mem_of_getElem? (i := 227) (by decide +kernel))) (by decide +kernel)
theorem ux_130 : Cond.initialized RJ15 ∈ kt_ := kt_m (kt_t1 _ (List.mem_of_getElem? (i := 10) (by decide +kernel))) (by decide +kernel)
theorem ux_131 : Cond.static yJ15_checkIndex_7cf53 ∈ kt_ := kt_m (kt_t1 _ (List.mem_of_getElem? (i := 226) (by decide +kernel))) (by decide +kernel)
theorem ux_132 : Cond.methodLink RJxa1e45 1 objectInit ∈ kt_ := kt_m (kt_t1 _ (List.mem_of_getElem? (i := 50) (by decide +kernel))) (by decide +kernel)
theorem ux_133 : Cond.code yJxa1e45_init_da8c8 cJxa1e45_init_da8c8 1 none ∈ kt_ := kt_m (kt_t1 _ (List.mem_of_getElem? (i := 49) (by decide +kernel))) (by decide +kernel)
theorem ux_134 : Cond.initialized RJxa1e45 ∈ kt_ := kt_m (kt_t1 _ (List.mem_of_getElem? (i := 2) (by decide +kernel))) (by decide +kernel)
theorem ux_135 : Cond.instanceMethod yJxa1e45_init_da8c8 ∈ kt_ := kt_m (kt_t1 _ (List.mem_of_getElem? (i := 48) (by decide +kernel))) (by decide +kernel)
theorem ux_136 : Cond.methodLink RJxc12de 1 yJxa1e45_init_da8c8 ∈ kt_ := kt_m (kt_t1 _ (List.mem_of_getElem? (i := 47) (by decide +kernel))) (by decide +kernel)
theorem ux_137 : Cond.fieldLink RJxc12de 7 "java/util/AbstractList" "modCount" "I" ∈ kt_ := kt_m (kt_t1 _ (List.mem_of_getElem? (i := 55) (by decide +kernel))) (by decide +kernel)
theorem ux_138 : Cond.code yJxc12de_init_da8c8 cJxc12de_init_da8c8 1 none ∈ kt_ := kt_m (kt_t1 _ (List.mem_of_getElem? (i := 46) (by decide +kernel))) (by decide +kernel)
theorem ux_139 : Cond.initialized RJxc12de ∈ kt_ := kt_m (kt_t1 _ (List.mem_of_getElem? (i := 3) (by decide +kernel))) (by decide +kernel)
theorem ux_140 : Cond.instanceMethod yJxc12de_init_da8c8 ∈ kt_ := kt_m (kt_t1 _ (List.mem_of_getElem? (i := 45) (by decide +kernel))) (by decide +kernel)
theorem ux_141 : Cond.methodLink RJx4a65c 1 yJxc12de_init_da8c8 ∈ kt_ := kt_m (kt_t1 _ (List.mem_of_getElem? (i := 44) (by decide +kernel))) (by decide +kernel)
theorem ux_142 : Cond.fieldLink RJx4a65c 9 "java/util/ArrayList" "elementData" "[Ljava/lang/Object;" ∈ kt_ := kt_m (kt_t1 _ (List.mem_of_getElem? (i := 53) (by decide +kernel))) (by decide +kernel)
theorem ux_143 : Cond.code yJx4a65c_init_da8c8 cJx4a65c_init_da8c8 1 none ∈ kt_ := kt_m (kt_t1 _ (List.mem_of_getElem? (i := 43) (by decide +kernel))) (by decide +kernel)
theorem ux_144 : Cond.instanceMethod yJx4a65c_init_da8c8 ∈ kt_ := kt_m (kt_t1 _ (List.mem_of_getElem? (i := 42) (by decide +kernel))) (by decide +kernel)
theorem ux_145 : Cond.fieldLink RJx4a65c 48 "java/util/ArrayList" "size" "I" ∈ kt_ := kt_m (kt_t1 _ (List.mem_of_getElem? (i := 54) (by decide +kernel))) (by decide +kernel)
theorem ux_146 : Cond.code yJx4a65c_size_8abf5 cJx4a65c_size_8abf5 1 (some .int) ∈ kt_ := kt_m (kt_t1 _ (List.mem_of_getElem? (i := 212) (by decide +kernel))) (by decide +kernel)
theorem ux_147 : Cond.selects RJx4a65c ⟨"java/util/List", "size", "()I"⟩ yJx4a65c_size_8abf5 ∈ kt_ := kt_m (kt_t1 _ (List.mem_of_getElem? (i := 208) (by decide +kernel))) (by decide +kernel)
theorem ux_148 : Cond.instanceMethod yJx4a65c_size_8abf5 ∈ kt_ := kt_m (kt_t1 _ (List.mem_of_getElem? (i := 210) (by decide +kernel))) (by decide +kernel)
theorem ux_149 : Cond.code yJx4a65c_elementData_915e3 cJx4a65c_elementData_915e3 2 (some (.object "java/lang/Object")) ∈ kt_ := kt_m (kt_t1 _ (List.mem_of_getElem? (i := 234) (by decide +kernel))) (by decide +kernel)
theorem ux_150 : Cond.instanceMethod yJx4a65c_elementData_915e3 ∈ kt_ := kt_m (kt_t1 _ (List.mem_of_getElem? (i := 232) (by decide +kernel))) (by decide +kernel)
theorem ux_151 : Cond.selects RJx4a65c yJx4a65c_elementData_915e3 yJx4a65c_elementData_915e3 ∈ kt_ := kt_m (kt_t1 _ (List.mem_of_getElem? (i := 233) (by decide +kernel))) (by decide +kernel)
theorem ux_152 : Cond.methodLink RJx4a65c 118 yJ15_checkIndex_7cf53 ∈ kt_ := kt_m (kt_t1 _ (List.mem_of_getElem? (i := 225) (by decide +kernel))) (by decide +kernel)
theorem ux_153 : Cond.methodLink RJx4a65c 123 yJx4a65c_elementData_915e3 ∈ kt_ := kt_m (kt_t1 _ (List.mem_of_getElem? (i := 231) (by decide +kernel))) (by decide +kernel)
theorem ux_154 : Cond.code yJx4a65c_get_915e3 cJx4a65c_get_915e3 2 (some (.object "java/lang/Object")) ∈ kt_ := kt_m (kt_t1 _ (List.mem_of_getElem? (i := 224) (by decide +kernel))) (by decide +kernel)
theorem ux_155 : Cond.selects RJx4a65c ⟨"java/util/List", "get", "(I)Ljava/lang/Object;"⟩ yJx4a65c_get_915e3 ∈ kt_ := kt_m (kt_t1 _ (List.mem_of_getElem? (i := 220) (by decide +kernel))) (by decide +kernel)
theorem ux_156 : Cond.instanceMethod yJx4a65c_get_915e3 ∈ kt_ := kt_m (kt_t1 _ (List.mem_of_getElem? (i := 222) (by decide +kernel))) (by decide +kernel)
theorem ux_157 : Cond.methodLink RJ8 194 Lib.Math.max.name ∈ kt_ := kt_m (kt_t2 _ (List.mem_of_getElem? (i := 103) (by decide +kernel))) (by decide +kernel)
theorem ux_158 : Cond.constant RJ8 200 (2147483639) ∈ kt_ := kt_m (kt_t2 _ (List.mem_of_getElem? (i := 106) (by decide +kernel))) (by decide +kernel)
theorem ux_159 : Cond.code yJ8_newLength_cabcc cJ8_newLength_cabcc 4 (some .int) ∈ kt_ := kt_m (kt_t2 _ (List.mem_of_getElem? (i := 102) (by decide +kernel))) (by decide +kernel)
theorem ux_160 : Cond.initialized RJ8 ∈ kt_ := kt_m (kt_t1 _ (List.mem_of_getElem? (i := 14) (by decide +kernel))) (by decide +kernel)
theorem ux_161 : Cond.static yJ8_newLength_cabcc ∈ kt_ := kt_m (kt_t2 _ (List.mem_of_getElem? (i := 101) (by decide +kernel))) (by decide +kernel)
theorem ux_162 : Cond.methodLink RJ7 304 Lib.Math.min.name ∈ kt_ := kt_m (kt_t2 _ (List.mem_of_getElem? (i := 139) (by decide +kernel))) (by decide +kernel)
theorem ux_163 : Cond.methodLink RJ7 150 arraycopyName ∈ kt_ := kt_m (kt_t2 _ (List.mem_of_getElem? (i := 142) (by decide +kernel))) (by decide +kernel)
theorem ux_164 : Cond.classLink RJ7 110 "[Ljava/lang/Object;" ∈ kt_ := kt_m (kt_t2 _ (List.mem_of_getElem? (i := 136) (by decide +kernel))) (by decide +kernel)
theorem ux_165 : Cond.classLink RJ7 2 "java/lang/Object" ∈ kt_ := kt_m (kt_t2 _ (List.mem_of_getElem? (i := 138) (by decide +kernel))) (by decide +kernel)
theorem ux_166 : Cond.code yJ7_copyOf_6403c cJ7_copyOf_6403c 4 (some (.array (.object "java/lang/Object"))) ∈ kt_ := kt_m (kt_t2 _ (List.mem_of_getElem? (i := 135) (by decide +kernel))) (by decide +kernel)
theorem ux_167 : Cond.initialized RJ7 ∈ kt_ := kt_m (kt_t1 _ (List.mem_of_getElem? (i := 16) (by decide +kernel))) (by decide +kernel)
theorem ux_168 : Cond.static yJ7_copyOf_6403c ∈ kt_ := kt_m (kt_t2 _ (List.mem_of_getElem? (i := 134) (by decide +kernel))) (by decide +kernel)
theorem ux_169 : Cond.methodLink RJ7 300 yJ7_copyOf_6403c ∈ kt_ := kt_m (kt_t2 _ (List.mem_of_getElem? (i := 133) (by decide +kernel))) (by decide +kernel)
theorem ux_170 : Cond.code yJ7_copyOf_1904c cJ7_copyOf_1904c 2 (some (.array (.object "java/lang/Object"))) ∈ kt_ := kt_m (kt_t2 _ (List.mem_of_getElem? (i := 112) (by decide +kernel))) (by decide +kernel)
theorem ux_171 : Cond.static yJ7_copyOf_1904c ∈ kt_ := kt_m (kt_t2 _ (List.mem_of_getElem? (i := 111) (by decide +kernel))) (by decide +kernel)
theorem ux_172 : Cond.methodLink RJx4a65c 73 yJ8_newLength_cabcc ∈ kt_ := kt_m (kt_t2 _ (List.mem_of_getElem? (i := 100) (by decide +kernel))) (by decide +kernel)
theorem ux_173 : Cond.methodLink RJx4a65c 66 yJ7_copyOf_1904c ∈ kt_ := kt_m (kt_t2 _ (List.mem_of_getElem? (i := 110) (by decide +kernel))) (by decide +kernel)
theorem ux_174 : Cond.methodLink RJx4a65c 79 Lib.Math.max.name ∈ kt_ := kt_m (kt_t2 _ (List.mem_of_getElem? (i := 145) (by decide +kernel))) (by decide +kernel)
theorem ux_175 : Cond.classLink RJx4a65c 7 "java/lang/Object" ∈ kt_ := kt_m (kt_t2 _ (List.mem_of_getElem? (i := 146) (by decide +kernel))) (by decide +kernel)
theorem ux_176 : Cond.code yJx4a65c_grow_92f84 cJx4a65c_grow_92f84 4 (some (.array (.object "java/lang/Object"))) ∈ kt_ := kt_m (kt_t2 _ (List.mem_of_getElem? (i := 99) (by decide +kernel))) (by decide +kernel)
theorem ux_177 : Cond.instanceMethod yJx4a65c_grow_92f84 ∈ kt_ := kt_m (kt_t2 _ (List.mem_of_getElem? (i := 98) (by decide +kernel))) (by decide +kernel)
theorem ux_178 : Cond.selects RJx4a65c yJx4a65c_grow_92f84 yJx4a65c_grow_92f84 ∈ kt_ := kt_m (kt_s1 _ (List.mem_of_getElem? (i := 2) (by decide +kernel))) (by decide +kernel)
theorem ux_179 : Cond.methodLink RJx4a65c 69 yJx4a65c_grow_92f84 ∈ kt_ := kt_m (kt_t2 _ (List.mem_of_getElem? (i := 96) (by decide +kernel))) (by decide +kernel)
theorem ux_180 : Cond.code yJx4a65c_grow_d5877 cJx4a65c_grow_d5877 1 (some (.array (.object "java/lang/Object"))) ∈ kt_ := kt_m (kt_t2 _ (List.mem_of_getElem? (i := 95) (by decide +kernel))) (by decide +kernel)
theorem ux_181 : Cond.instanceMethod yJx4a65c_grow_d5877 ∈ kt_ := kt_m (kt_t2 _ (List.mem_of_getElem? (i := 94) (by decide +kernel))) (by decide +kernel)
theorem ux_182 : Cond.selects RJx4a65c yJx4a65c_grow_d5877 yJx4a65c_grow_d5877 ∈ kt_ := kt_m (kt_s1 _ (List.mem_of_getElem? (i := 1) (by decide +kernel))) (by decide +kernel)
theorem ux_183 : Cond.methodLink RJx4a65c 129 yJx4a65c_grow_d5877 ∈ kt_ := kt_m (kt_t2 _ (List.mem_of_getElem? (i := 92) (by decide +kernel))) (by decide +kernel)
theorem ux_184 : Cond.code yJx4a65c_add_72be8 cJx4a65c_add_72be8 4 none ∈ kt_ := kt_m (kt_t2 _ (List.mem_of_getElem? (i := 91) (by decide +kernel))) (by decide +kernel)
theorem ux_185 : Cond.instanceMethod yJx4a65c_add_72be8 ∈ kt_ := kt_m (kt_t2 _ (List.mem_of_getElem? (i := 90) (by decide +kernel))) (by decide +kernel)
theorem ux_186 : Cond.selects RJx4a65c yJx4a65c_add_72be8 yJx4a65c_add_72be8 ∈ kt_ := kt_m (kt_s1 _ (List.mem_of_getElem? (i := 0) (by decide +kernel))) (by decide +kernel)
theorem ux_187 : Cond.fieldLink RJx4a65c 63 "java/util/ArrayList" "modCount" "I" ∈ kt_ := kt_m (kt_t1 _ (List.mem_of_getElem? (i := 56) (by decide +kernel))) (by decide +kernel)
theorem ux_188 : Cond.sameField "java/util/ArrayList" "java/util/AbstractList" "modCount" "I" ∈ kt_ := kt_m (kt_t1 _ (List.mem_of_getElem? (i := 57) (by decide +kernel))) (by decide +kernel)
theorem ux_189 : Cond.methodLink RJx4a65c 131 yJx4a65c_add_72be8 ∈ kt_ := kt_m (kt_t2 _ (List.mem_of_getElem? (i := 88) (by decide +kernel))) (by decide +kernel)
theorem ux_190 : Cond.code yJx4a65c_add_9ea2d cJx4a65c_add_9ea2d 2 (some .boolean) ∈ kt_ := kt_m (kt_t2 _ (List.mem_of_getElem? (i := 87) (by decide +kernel))) (by decide +kernel)
theorem ux_191 : Cond.selects RJx4a65c ⟨"java/util/List", "add", "(Ljava/lang/Object;)Z"⟩ yJx4a65c_add_9ea2d ∈ kt_ := kt_m (kt_t2 _ (List.mem_of_getElem? (i := 83) (by decide +kernel))) (by decide +kernel)
theorem ux_192 : Cond.instanceMethod yJx4a65c_add_9ea2d ∈ kt_ := kt_m (kt_t2 _ (List.mem_of_getElem? (i := 85) (by decide +kernel))) (by decide +kernel)
theorem ux_193 : Cond.methodLink RJx4a65c 112 arraycopyName ∈ kt_ := kt_m (kt_t4 _ (List.mem_of_getElem? (i := 205) (by decide +kernel))) (by decide +kernel)
theorem ux_194 : Cond.code yJx4a65c_fastRemove_b59b0 cJx4a65c_fastRemove_b59b0 4 none ∈ kt_ := kt_m (kt_t4 _ (List.mem_of_getElem? (i := 204) (by decide +kernel))) (by decide +kernel)
theorem ux_195 : Cond.instanceMethod yJx4a65c_fastRemove_b59b0 ∈ kt_ := kt_m (kt_t4 _ (List.mem_of_getElem? (i := 203) (by decide +kernel))) (by decide +kernel)
theorem ux_196 : Cond.selects RJx4a65c yJx4a65c_fastRemove_b59b0 yJx4a65c_fastRemove_b59b0 ∈ kt_ := kt_m (kt_s2 _ (List.mem_of_getElem? (i := 14) (by decide +kernel))) (by decide +kernel)
theorem ux_197 : Cond.methodLink RJx4a65c 144 yJx4a65c_fastRemove_b59b0 ∈ kt_ := kt_m (kt_t4 _ (List.mem_of_getElem? (i := 201) (by decide +kernel))) (by decide +kernel)
theorem ux_198 : Cond.code yJx4a65c_remove_915e3 cJx4a65c_remove_915e3 4 (some (.object "java/lang/Object")) ∈ kt_ := kt_m (kt_t4 _ (List.mem_of_getElem? (i := 200) (by decide +kernel))) (by decide +kernel)
theorem ux_199 : Cond.selects RJx4a65c ⟨"java/util/List", "remove", "(I)Ljava/lang/Object;"⟩ yJx4a65c_remove_915e3 ∈ kt_ := kt_m (kt_t4 _ (List.mem_of_getElem? (i := 196) (by decide +kernel))) (by decide +kernel)
theorem ux_200 : Cond.instanceMethod yJx4a65c_remove_915e3 ∈ kt_ := kt_m (kt_t4 _ (List.mem_of_getElem? (i := 198) (by decide +kernel))) (by decide +kernel)
theorem ux_201 : Cond.arrayClass .int ∈ kt_ := kt_m (kt_t1 _ (List.mem_of_getElem? (i := 80) (by decide +kernel))) (by decide +kernel)
theorem ux_202 : Cond.classLink RJ7 317 "[I" ∈ kt_ := kt_m (kt_t4 _ (List.mem_of_getElem? (i := 68) (by decide +kernel))) (by decide +kernel)
theorem ux_203 : Cond.code yJ7_copyOf_59c91 cJ7_copyOf_59c91 3 (some (.array .int)) ∈ kt_ := kt_m (kt_t4 _ (List.mem_of_getElem? (i := 61) (by decide +kernel))) (by decide +kernel)
theorem ux_204 : Cond.static yJ7_copyOf_59c91 ∈ kt_ := kt_m (kt_t4 _ (List.mem_of_getElem? (i := 60) (by decide +kernel))) (by decide +kernel)
theorem dJ3_checkIndex_8e157_9 : decode cJ3_checkIndex_8e157 9 = .ok (.aload_n 2, 1) := by decide +kernel
theorem dJ3_checkIndex_8e157_10 : decode cJ3_checkIndex_8e157 10 = .ok (.iload_n 0, 1) := by decide +kernel
theorem dJ3_checkIndex_8e157_11 : decode cJ3_checkIndex_8e157 11 = .ok (.iload_n 1, 1) := by decide +kernel
theorem dJ3_checkIndex_8e157_12 : decode cJ3_checkIndex_8e157 12 = .ok (.invokestatic 95, 3) := by decide +kernel
def wJ3_checkIndex_8e157_9 (Q : Int32 → kx_S → Prop) (l0 : Int32) (l1 : Int32) (l2 : Option Nat) (σ : kx_S) : Prop := False
def wJ3_checkIndex_8e157 (l0 : Int32) (l1 : Int32) (l2 : Option Nat) (σ : kx_S) (Q : Int32 → kx_S → Prop) : Prop := ((l0 < 0 → wJ3_checkIndex_8e157_9 Q l0 l1 l2 σ) ∧
  (¬ (l0 < 0) → ((l0 < l1 → Q l0 σ) ∧
    (¬ (l0 < l1) → wJ3_checkIndex_8e157_9 Q l0 l1 l2 σ))))
set_option maxRecDepth 100000 in
set_option maxHeartbeats 4000000 in
theorem tJ3_checkIndex_8e157_9 (l : Launch) (G : kx_G) (σ0 : kx_S) {p : Program} {e : Env} {s : State} {m : MethodId} {args : Array Value} {below : List Frame} {meth : Method} {c : Code} (F : CallFix p m c cJ3_checkIndex_8e157 3 s args kt_ RJ3) (hr : meth.sig.returnType = (some .int)) (hlocks : meth.locks = false) (Q : Int32 → kx_S → Prop) : ∀ (l0 : Int32) (l1 : Int32) (l2 : Option Nat) (σ : kx_S) (H : Heap) (locs : List Loc) (ls : Array Slot), wJ3_checkIndex_8e157_9 Q l0 l1 l2 σ → kx_X G (xc σ0) s H locs σ → lv_has ls 3 [(0, .int l0), (1, .int l1), (2, va_rf l2)] → kx_W p l e (0) (0) (xc σ0) s m args below meth c H locs σ (MQ below (kx_Q G σ0 (kx_ri Q)) args s (kx_N - xc σ0) (600 * (kx_N - xc σ0)) (kx_A G)) (F0 m 9 ls []) := by
  intro l0 l1 l2 σ H locs ls h C hl
  refine xq_aload_n F.1 F.2.1 dJ3_checkIndex_8e157_9 rfl (lv_at hl 2 rfl) ?_
  refine lv_iload_n F.1 F.2.1 dJ3_checkIndex_8e157_10 rfl (lv_at hl 0 rfl) ?_
  refine lv_iload_n F.1 F.2.1 dJ3_checkIndex_8e157_11 rfl (lv_at hl 1 rfl) ?_
  exact h.elim
set_option maxRecDepth 100000 in
set_option maxHeartbeats 4000000 in
theorem hx_J3_checkIndex_8e157 (l : Launch) (G : kx_G) (l0 : Int32) (l1 : Int32) (l2 : Option Nat) (σ : kx_S) (Q : Int32 → kx_S → Prop) (h : wJ3_checkIndex_8e157 l0 l1 l2 σ Q) : kx_M l G yJ3_checkIndex_8e157 cJ3_checkIndex_8e157 3 (some .int) (0) (0) [.int l0, .int l1, va_rf l2] σ (kx_ri Q) := by
  refine kx_enter (by decide) rfl (by simp only [lg_sl, List.flatMap_cons, List.flatMap_nil]; cases l2 <;> exact Nat.le_of_ble_eq_true rfl) ?_
  intro p e s m below meth c ls F hr hlocks C hname hl
  have hl : lv_has ls 3 [(0, .int l0), (1, .int l1), (2, va_rf l2)] := (by cases l2 <;> exact hl)
  obtain ⟨H, eH⟩ : ∃ z9, z9 = s.heap := ⟨_, rfl⟩
  obtain ⟨locs, eL⟩ : ∃ z9 : List Loc, z9 = [] := ⟨_, rfl⟩
  rw [← eH, ← eL] at C
  rw [← eH, ← eL]
  obtain ⟨σ0, e0⟩ : ∃ z9, z9 = σ := ⟨_, rfl⟩
  have C : kx_X G (xc σ0) s H locs σ := by rw [e0]; exact C
  suffices hgo : kx_W p l e (0) (0) (xc σ0) s m ([.int l0, .int l1, va_rf l2] : List Value).toArray below meth c H locs σ (MQ below (kx_Q G σ0 (kx_ri Q)) ([.int l0, .int l1, va_rf l2] : List Value).toArray s (kx_N - xc σ0) (600 * (kx_N - xc σ0)) (kx_A G)) (F0 m 0 ls []) by rw [e0] at hgo; exact hgo
  clear e0
  refine lv_iload_n F.1 F.2.1 dJ3_checkIndex_8e157_0 rfl (lv_at hl 0 rfl) ?_
  refine lv_if_lt (tgt := 9) F.1 F.2.1 dJ3_checkIndex_8e157_1 (by decide) (fun c1 => ?_) (fun c1 => ?_)
  · replace h := h.1 c1
    exact tJ3_checkIndex_8e157_9 l G σ0 F hr hlocks Q l0 l1 l2 σ H locs ls h C (lv_sub hl [0, 1, 2] rfl)
  · replace h := h.2 c1
    refine lv_iload_n F.1 F.2.1 dJ3_checkIndex_8e157_4 rfl (lv_at hl 0 rfl) ?_
    refine lv_iload_n F.1 F.2.1 dJ3_checkIndex_8e157_5 rfl (lv_at hl 1 rfl) ?_
    refine lv_icmp_lt (tgt := 16) F.1 F.2.1 dJ3_checkIndex_8e157_6 (by decide) (fun c2 => ?_) (fun c2 => ?_)
    · replace h := h.1 c2
      refine lv_iload_n F.1 F.2.1 dJ3_checkIndex_8e157_16 rfl (lv_at hl 0 rfl) ?_
      exact kx_iret F C hr hlocks h dJ3_checkIndex_8e157_17
    · replace h := h.2 c2
      exact tJ3_checkIndex_8e157_9 l G σ0 F hr hlocks Q l0 l1 l2 σ H locs ls h C (lv_sub hl [0, 1, 2] rfl)
section
variable {p : Program} {l : Launch} {e : Env} {fr lo c0 : Nat} {s : State} {m : MethodId} {args : Array Value} {below : List Frame} {meth : Method} {c : Code} {H : Heap} {locs : List Loc} {Q : State → Prop}
variable {cc : ByteArray} {pc nL index : Nat} {ls : Array Slot} {rest : List Value} {G : kx_G} {σ : kx_S} {own : String}
theorem xk_J3_checkIndex_8e157 {P : Int32 → kx_S → Prop} (F : CallFix p m c cc nL s args kt_ own) (C : kx_X G c0 s H locs σ) (l0 : Int32) (l1 : Int32) (l2 : Option Nat) (h : wJ3_checkIndex_8e157 l0 l1 l2 σ P) (hw : Cond.methodLink own index yJ3_checkIndex_8e157 ∈ kt_) (h1 : (0) + 1 ≤ fr) (h2 : 8 + (3 + 11) + (0) ≤ lo) (hsz : ls.size = nL) (hW : (rest.map fun v => v.category).sum ≤ 8) (hdg : decode cc pc = .ok (.invokestatic index, 3)) (kk : ∀ (r : Int32) (u : kx_S) (H1 : Heap) (locs1 : List Loc), P r u → kx_X G c0 s H1 locs1 u → kx_W p l e fr lo c0 s m args below meth c H1 locs1 u Q (F0 m (pc + 3) ls (.int r :: rest))) : kx_W p l e fr lo c0 s m args below meth c H locs σ Q (F0 m pc ls (va_rf l2 :: .int l1 :: .int l0 :: rest)) :=
  kx_cS (n := 3) (As := [.int l0, .int l1, va_rf l2]) F C (hx_J3_checkIndex_8e157 l G l0 l1 l2 σ P h) (kt_S hw ux_127 ux_126 ux_125) (by decide +kernel) ⟨h1, h2⟩ rfl hsz hW hdg (fun v u H1 locs1 hP9 C9 => by obtain ⟨r, hv, hp⟩ := hP9; subst hv; exact kk r u H1 locs1 hp C9)
end
theorem dJ15_checkIndex_7cf53_0 : decode cJ15_checkIndex_7cf53 0 = .ok (.iload_n 0, 1) := by decide +kernel
theorem dJ15_checkIndex_7cf53_1 : decode cJ15_checkIndex_7cf53 1 = .ok (.iload_n 1, 1) := by decide +kernel
theorem dJ15_checkIndex_7cf53_2 : decode cJ15_checkIndex_7cf53 2 = .ok (.aconst_null, 1) := by decide +kernel
theorem dJ15_checkIndex_7cf53_3 : decode cJ15_checkIndex_7cf53 3 = .ok (.invokestatic 105, 3) := by decide +kernel
theorem dJ15_checkIndex_7cf53_6 : decode cJ15_checkIndex_7cf53 6 = .ok (.ireturn, 1) := by decide +kernel
def wJ15_checkIndex_7cf53 (l0 : Int32) (l1 : Int32) (σ : kx_S) (Q : Int32 → kx_S → Prop) : Prop := wJ3_checkIndex_8e157 l0 l1 none σ (fun r2 σ1 => Q r2 σ1)
set_option maxRecDepth 100000 in
set_option maxHeartbeats 4000000 in
theorem hx_J15_checkIndex_7cf53 (l : Launch) (G : kx_G) (l0 : Int32) (l1 : Int32) (σ : kx_S) (Q : Int32 → kx_S → Prop) (h : wJ15_checkIndex_7cf53 l0 l1 σ Q) : kx_M l G yJ15_checkIndex_7cf53 cJ15_checkIndex_7cf53 2 (some .int) (1) (22) [.int l0, .int l1] σ (kx_ri Q) := by
  refine kx_enter (by decide) rfl (Nat.le_of_ble_eq_true rfl) ?_
  intro p e s m below meth c ls F hr hlocks C hname hl
  have hl : lv_has ls 2 [(0, .int l0), (1, .int l1)] := hl
  obtain ⟨H, eH⟩ : ∃ z9, z9 = s.heap := ⟨_, rfl⟩
  obtain ⟨locs, eL⟩ : ∃ z9 : List Loc, z9 = [] := ⟨_, rfl⟩
  rw [← eH, ← eL] at C
  rw [← eH, ← eL]
  obtain ⟨σ0, e0⟩ : ∃ z9, z9 = σ := ⟨_, rfl⟩
  have C : kx_X G (xc σ0) s H locs σ := by rw [e0]; exact C
  suffices hgo : kx_W p l e (1) (22) (xc σ0) s m ([.int l0, .int l1] : List Value).toArray below meth c H locs σ (MQ below (kx_Q G σ0 (kx_ri Q)) ([.int l0, .int l1] : List Value).toArray s (kx_N - xc σ0) (600 * (kx_N - xc σ0)) (kx_A G)) (F0 m 0 ls []) by rw [e0] at hgo; exact hgo
  clear e0
  refine lv_iload_n F.1 F.2.1 dJ15_checkIndex_7cf53_0 rfl (lv_at hl 0 rfl) ?_
  refine lv_iload_n F.1 F.2.1 dJ15_checkIndex_7cf53_1 rfl (lv_at hl 1 rfl) ?_
  refine lv_null F.1 F.2.1 dJ15_checkIndex_7cf53_2 ?_
  refine xk_J3_checkIndex_8e157 F C l0 l1 none h ux_128 (Nat.le_of_ble_eq_true rfl) (Nat.le_of_ble_eq_true rfl) hl.1 (by simp [Value.category]) dJ15_checkIndex_7cf53_3 (fun r2 σ1 H locs h C => ?_)
  exact kx_iret F C hr hlocks h dJ15_checkIndex_7cf53_6
section
variable {p : Program} {l : Launch} {e : Env} {fr lo c0 : Nat} {s : State} {m : MethodId} {args : Array Value} {below : List Frame} {meth : Method} {c : Code} {H : Heap} {locs : List Loc} {Q : State → Prop}
variable {cc : ByteArray} {pc nL index : Nat} {ls : Array Slot} {rest : List Value} {G : kx_G} {σ : kx_S} {own : String}
theorem xk_J15_checkIndex_7cf53 {P : Int32 → kx_S → Prop} (F : CallFix p m c cc nL s args kt_ own) (C : kx_X G c0 s H locs σ) (l0 : Int32) (l1 : Int32) (h : wJ15_checkIndex_7cf53 l0 l1 σ P) (hw : Cond.methodLink own index yJ15_checkIndex_7cf53 ∈ kt_) (h1 : (1) + 1 ≤ fr) (h2 : 8 + (2 + 11) + (22) ≤ lo) (hsz : ls.size = nL) (hW : (rest.map fun v => v.category).sum ≤ 8) (hdg : decode cc pc = .ok (.invokestatic index, 3)) (kk : ∀ (r : Int32) (u : kx_S) (H1 : Heap) (locs1 : List Loc), P r u → kx_X G c0 s H1 locs1 u → kx_W p l e fr lo c0 s m args below meth c H1 locs1 u Q (F0 m (pc + 3) ls (.int r :: rest))) : kx_W p l e fr lo c0 s m args below meth c H locs σ Q (F0 m pc ls (.int l1 :: .int l0 :: rest)) :=
  kx_cS (n := 2) (As := [.int l0, .int l1]) F C (hx_J15_checkIndex_7cf53 l G l0 l1 σ P h) (kt_S hw ux_131 ux_130 ux_129) (by decide +kernel) ⟨h1, h2⟩ rfl hsz hW hdg (fun v u H1 locs1 hP9 C9 => by obtain ⟨r, hv, hp⟩ := hP9; subst hv; exact kk r u H1 locs1 hp C9)
end
theorem dJxa1e45_init_da8c8_0 : decode cJxa1e45_init_da8c8 0 = .ok (.aload_n 0, 1) := by decide +kernel
theorem dJxa1e45_init_da8c8_1 : decode cJxa1e45_init_da8c8 1 = .ok (.invokespecial 1, 3) := by decide +kernel
theorem dJxa1e45_init_da8c8_4 : decode cJxa1e45_init_da8c8 4 = .ok (.return_, 1) := by decide +kernel
def wJxa1e45_init_da8c8 (l0 : Nat) (σ : kx_S) (Q : kx_S → Prop) : Prop := Q σ
set_option maxRecDepth 100000 in
set_option maxHeartbeats 4000000 in
theorem hx_Jxa1e45_init_da8c8 (l : Launch) (G : kx_G) (l0 : Nat) (σ : kx_S) (Q : kx_S → Prop) (h : wJxa1e45_init_da8c8 l0 σ Q) : kx_M l G yJxa1e45_init_da8c8 cJxa1e45_init_da8c8 1 none (1) (12) [.ref l0] σ (kx_rv Q) := by
  refine kx_enter (by decide) rfl (Nat.le_of_ble_eq_true rfl) ?_
  intro p e s m below meth c ls F hr hlocks C hname hl
  have hini : meth.name = "<init>" := hname
  have hl : lv_has ls 1 [(0, .ref l0)] := hl
  obtain ⟨H, eH⟩ : ∃ z9, z9 = s.heap := ⟨_, rfl⟩
  obtain ⟨locs, eL⟩ : ∃ z9 : List Loc, z9 = [] := ⟨_, rfl⟩
  rw [← eH, ← eL] at C
  rw [← eH, ← eL]
  obtain ⟨σ0, e0⟩ : ∃ z9, z9 = σ := ⟨_, rfl⟩
  have C : kx_X G (xc σ0) s H locs σ := by rw [e0]; exact C
  suffices hgo : kx_W p l e (1) (12) (xc σ0) s m ([.ref l0] : List Value).toArray below meth c H locs σ (MQ below (kx_Q G σ0 (kx_rv Q)) ([.ref l0] : List Value).toArray s (kx_N - xc σ0) (600 * (kx_N - xc σ0)) (kx_A G)) (F0 m 0 ls []) by rw [e0] at hgo; exact hgo
  clear e0
  refine lv_aload_n F.1 F.2.1 dJxa1e45_init_da8c8_0 rfl (lv_at hl 0 rfl) ?_
  refine kx_objI F ux_132 hl.1 (Nat.le_of_ble_eq_true rfl) (by simp [Value.category]) dJxa1e45_init_da8c8_1 ?_
  exact kx_vret F C hr hlocks h dJxa1e45_init_da8c8_4
section
variable {p : Program} {l : Launch} {e : Env} {fr lo c0 : Nat} {s : State} {m : MethodId} {args : Array Value} {below : List Frame} {meth : Method} {c : Code} {H : Heap} {locs : List Loc} {Q : State → Prop}
variable {cc : ByteArray} {pc nL index : Nat} {ls : Array Slot} {rest : List Value} {G : kx_G} {σ : kx_S} {own : String}
theorem xk_Jxa1e45_init_da8c8 {P : kx_S → Prop} (F : CallFix p m c cc nL s args kt_ own) (C : kx_X G c0 s H locs σ) (l0 : Nat) (h : wJxa1e45_init_da8c8 l0 σ P) (hw : Cond.methodLink own index yJxa1e45_init_da8c8 ∈ kt_) (h1 : (1) + 1 ≤ fr) (h2 : 8 + (1 + 11) + (12) ≤ lo) (hsz : ls.size = nL) (hW : (rest.map fun v => v.category).sum ≤ 8) (hdg : decode cc pc = .ok (.invokespecial index, 3)) (kk : ∀ (u : kx_S) (H1 : Heap) (locs1 : List Loc), P u → kx_X G c0 s H1 locs1 u → kx_W p l e fr lo c0 s m args below meth c H1 locs1 u Q (F0 m (pc + 3) ls rest)) : kx_W p l e fr lo c0 s m args below meth c H locs σ Q (F0 m pc ls (.ref l0 :: rest)) :=
  kx_cI (n := 0) (As := []) F C (hx_Jxa1e45_init_da8c8 l G l0 σ P h) ux_133 ux_134 hw ux_135 rfl (by decide +kernel) ⟨h1, h2⟩ rfl hsz hW hdg (fun v u H1 locs1 hP9 C9 => by obtain ⟨hv, hp⟩ := hP9; subst hv; exact kk u H1 locs1 hp C9)
end
theorem dJxc12de_init_da8c8_0 : decode cJxc12de_init_da8c8 0 = .ok (.aload_n 0, 1) := by decide +kernel
theorem dJxc12de_init_da8c8_1 : decode cJxc12de_init_da8c8 1 = .ok (.invokespecial 1, 3) := by decide +kernel
theorem dJxc12de_init_da8c8_4 : decode cJxc12de_init_da8c8 4 = .ok (.aload_n 0, 1) := by decide +kernel
theorem dJxc12de_init_da8c8_5 : decode cJxc12de_init_da8c8 5 = .ok (.iconst 0, 1) := by decide +kernel
theorem dJxc12de_init_da8c8_6 : decode cJxc12de_init_da8c8 6 = .ok (.putfield 7, 3) := by decide +kernel
theorem dJxc12de_init_da8c8_9 : decode cJxc12de_init_da8c8 9 = .ok (.return_, 1) := by decide +kernel
def wJxc12de_init_da8c8 (l0 : Nat) (σ : kx_S) (Q : kx_S → Prop) : Prop := wJxa1e45_init_da8c8 l0 σ (fun σ1 => xt σ1 l0 = 1 ∧ ∀ σ3, σ3 = xsi σ1 16 l0 0 → Q σ3)
set_option maxRecDepth 100000 in
set_option maxHeartbeats 4000000 in
theorem hx_Jxc12de_init_da8c8 (l : Launch) (G : kx_G) (l0 : Nat) (σ : kx_S) (Q : kx_S → Prop) (h : wJxc12de_init_da8c8 l0 σ Q) : kx_M l G yJxc12de_init_da8c8 cJxc12de_init_da8c8 1 none (2) (32) [.ref l0] σ (kx_rv Q) := by
  refine kx_enter (by decide) rfl (Nat.le_of_ble_eq_true rfl) ?_
  intro p e s m below meth c ls F hr hlocks C hname hl
  have hini : meth.name = "<init>" := hname
  have hl : lv_has ls 1 [(0, .ref l0)] := hl
  obtain ⟨H, eH⟩ : ∃ z9, z9 = s.heap := ⟨_, rfl⟩
  obtain ⟨locs, eL⟩ : ∃ z9 : List Loc, z9 = [] := ⟨_, rfl⟩
  rw [← eH, ← eL] at C
  rw [← eH, ← eL]
  obtain ⟨σ0, e0⟩ : ∃ z9, z9 = σ := ⟨_, rfl⟩
  have C : kx_X G (xc σ0) s H locs σ := by rw [e0]; exact C
  suffices hgo : kx_W p l e (2) (32) (xc σ0) s m ([.ref l0] : List Value).toArray below meth c H locs σ (MQ below (kx_Q G σ0 (kx_rv Q)) ([.ref l0] : List Value).toArray s (kx_N - xc σ0) (600 * (kx_N - xc σ0)) (kx_A G)) (F0 m 0 ls []) by rw [e0] at hgo; exact hgo
  clear e0
  refine lv_aload_n F.1 F.2.1 dJxc12de_init_da8c8_0 rfl (lv_at hl 0 rfl) ?_
  refine xk_Jxa1e45_init_da8c8 F C l0 h ux_136 (Nat.le_of_ble_eq_true rfl) (Nat.le_of_ble_eq_true rfl) hl.1 (by simp [Value.category]) dJxc12de_init_da8c8_1 (fun σ1 H locs h C => ?_)
  refine lv_aload_n F.1 F.2.1 dJxc12de_init_da8c8_4 rfl (lv_at hl 0 rfl) ?_
  refine lv_iconst (v := 0) F.1 F.2.1 dJxc12de_init_da8c8_5 (by decide) ?_
  obtain ⟨ht2, h⟩ := h
  refine xp_Jx4a65c_modCount (x := 0) F C ht2 ux_137 (fun _ h9 => h9) dJxc12de_init_da8c8_6 (fun H locs C => ?_)
  generalize eσ3 : xsi σ1 16 l0 0 = σ3 at C ⊢
  replace h := h σ3 eσ3.symm
  have ht4 : xt σ3 l0 = 1 := by rw [← eσ3]; exact ht2
  exact kx_vret F C hr hlocks h dJxc12de_init_da8c8_9
section
variable {p : Program} {l : Launch} {e : Env} {fr lo c0 : Nat} {s : State} {m : MethodId} {args : Array Value} {below : List Frame} {meth : Method} {c : Code} {H : Heap} {locs : List Loc} {Q : State → Prop}
variable {cc : ByteArray} {pc nL index : Nat} {ls : Array Slot} {rest : List Value} {G : kx_G} {σ : kx_S} {own : String}
theorem xk_Jxc12de_init_da8c8 {P : kx_S → Prop} (F : CallFix p m c cc nL s args kt_ own) (C : kx_X G c0 s H locs σ) (l0 : Nat) (h : wJxc12de_init_da8c8 l0 σ P) (hw : Cond.methodLink own index yJxc12de_init_da8c8 ∈ kt_) (h1 : (2) + 1 ≤ fr) (h2 : 8 + (1 + 11) + (32) ≤ lo) (hsz : ls.size = nL) (hW : (rest.map fun v => v.category).sum ≤ 8) (hdg : decode cc pc = .ok (.invokespecial index, 3)) (kk : ∀ (u : kx_S) (H1 : Heap) (locs1 : List Loc), P u → kx_X G c0 s H1 locs1 u → kx_W p l e fr lo c0 s m args below meth c H1 locs1 u Q (F0 m (pc + 3) ls rest)) : kx_W p l e fr lo c0 s m args below meth c H locs σ Q (F0 m pc ls (.ref l0 :: rest)) :=
  kx_cI (n := 0) (As := []) F C (hx_Jxc12de_init_da8c8 l G l0 σ P h) ux_138 ux_139 hw ux_140 rfl (by decide +kernel) ⟨h1, h2⟩ rfl hsz hW hdg (fun v u H1 locs1 hP9 C9 => by obtain ⟨hv, hp⟩ := hP9; subst hv; exact kk u H1 locs1 hp C9)
end
theorem dJx4a65c_init_da8c8_0 : decode cJx4a65c_init_da8c8 0 = .ok (.aload_n 0, 1) := by decide +kernel
theorem dJx4a65c_init_da8c8_1 : decode cJx4a65c_init_da8c8 1 = .ok (.invokespecial 1, 3) := by decide +kernel
theorem dJx4a65c_init_da8c8_4 : decode cJx4a65c_init_da8c8 4 = .ok (.aload_n 0, 1) := by decide +kernel
theorem dJx4a65c_init_da8c8_5 : decode cJx4a65c_init_da8c8 5 = .ok (.getstatic 39, 3) := by decide +kernel
theorem dJx4a65c_init_da8c8_8 : decode cJx4a65c_init_da8c8 8 = .ok (.putfield 9, 3) := by decide +kernel
theorem dJx4a65c_init_da8c8_11 : decode cJx4a65c_init_da8c8 11 = .ok (.return_, 1) := by decide +kernel
def wJx4a65c_init_da8c8 (l0 : Nat) (σ : kx_S) (Q : kx_S → Prop) : Prop := wJxc12de_init_da8c8 l0 σ (fun σ1 => xt σ1 l0 = 1 ∧ ∀ σ3, σ3 = xsr σ1 17 l0 (some (xz σ1)) → Q σ3)
set_option maxRecDepth 100000 in
set_option maxHeartbeats 4000000 in
theorem hx_Jx4a65c_init_da8c8 (l : Launch) (G : kx_G) (l0 : Nat) (σ : kx_S) (Q : kx_S → Prop) (h : wJx4a65c_init_da8c8 l0 σ Q) : kx_M l G yJx4a65c_init_da8c8 cJx4a65c_init_da8c8 1 none (3) (52) [.ref l0] σ (kx_rv Q) := by
  refine kx_enter (by decide) rfl (Nat.le_of_ble_eq_true rfl) ?_
  intro p e s m below meth c ls F hr hlocks C hname hl
  have hini : meth.name = "<init>" := hname
  have hl : lv_has ls 1 [(0, .ref l0)] := hl
  obtain ⟨H, eH⟩ : ∃ z9, z9 = s.heap := ⟨_, rfl⟩
  obtain ⟨locs, eL⟩ : ∃ z9 : List Loc, z9 = [] := ⟨_, rfl⟩
  rw [← eH, ← eL] at C
  rw [← eH, ← eL]
  obtain ⟨σ0, e0⟩ : ∃ z9, z9 = σ := ⟨_, rfl⟩
  have C : kx_X G (xc σ0) s H locs σ := by rw [e0]; exact C
  suffices hgo : kx_W p l e (3) (52) (xc σ0) s m ([.ref l0] : List Value).toArray below meth c H locs σ (MQ below (kx_Q G σ0 (kx_rv Q)) ([.ref l0] : List Value).toArray s (kx_N - xc σ0) (600 * (kx_N - xc σ0)) (kx_A G)) (F0 m 0 ls []) by rw [e0] at hgo; exact hgo
  clear e0
  refine lv_aload_n F.1 F.2.1 dJx4a65c_init_da8c8_0 rfl (lv_at hl 0 rfl) ?_
  refine xk_Jxc12de_init_da8c8 F C l0 h ux_141 (Nat.le_of_ble_eq_true rfl) (Nat.le_of_ble_eq_true rfl) hl.1 (by simp [Value.category]) dJx4a65c_init_da8c8_1 (fun σ1 H locs h C => ?_)
  refine lv_aload_n F.1 F.2.1 dJx4a65c_init_da8c8_4 rfl (lv_at hl 0 rfl) ?_
  refine kx_getz F C dJx4a65c_init_da8c8_5 ?_
  obtain ⟨ht2, h⟩ := h
  refine xp_Jx4a65c_elementData (x := some (xz σ1)) F C ht2 ux_142 (fun _ h9 => h9) dJx4a65c_init_da8c8_8 (fun H locs C => ?_)
  generalize eσ3 : xsr σ1 17 l0 (some (xz σ1)) = σ3 at C ⊢
  replace h := h σ3 eσ3.symm
  have ht4 : xt σ3 l0 = 1 := by rw [← eσ3]; exact ht2
  exact kx_vret F C hr hlocks h dJx4a65c_init_da8c8_11
section
variable {p : Program} {l : Launch} {e : Env} {fr lo c0 : Nat} {s : State} {m : MethodId} {args : Array Value} {below : List Frame} {meth : Method} {c : Code} {H : Heap} {locs : List Loc} {Q : State → Prop}
variable {cc : ByteArray} {pc nL index : Nat} {ls : Array Slot} {rest : List Value} {G : kx_G} {σ : kx_S} {own : String}
theorem xk_Jx4a65c_init_da8c8 {P : kx_S → Prop} (F : CallFix p m c cc nL s args kt_ own) (C : kx_X G c0 s H locs σ) (l0 : Nat) (h : wJx4a65c_init_da8c8 l0 σ P) (hw : Cond.methodLink own index yJx4a65c_init_da8c8 ∈ kt_) (h1 : (3) + 1 ≤ fr) (h2 : 8 + (1 + 11) + (52) ≤ lo) (hsz : ls.size = nL) (hW : (rest.map fun v => v.category).sum ≤ 8) (hdg : decode cc pc = .ok (.invokespecial index, 3)) (kk : ∀ (u : kx_S) (H1 : Heap) (locs1 : List Loc), P u → kx_X G c0 s H1 locs1 u → kx_W p l e fr lo c0 s m args below meth c H1 locs1 u Q (F0 m (pc + 3) ls rest)) : kx_W p l e fr lo c0 s m args below meth c H locs σ Q (F0 m pc ls (.ref l0 :: rest)) :=
  kx_cI (n := 0) (As := []) F C (hx_Jx4a65c_init_da8c8 l G l0 σ P h) ux_143 ux_25 hw ux_144 rfl (by decide +kernel) ⟨h1, h2⟩ rfl hsz hW hdg (fun v u H1 locs1 hP9 C9 => by obtain ⟨hv, hp⟩ := hP9; subst hv; exact kk u H1 locs1 hp C9)
end
theorem dJx4a65c_size_8abf5_0 : decode cJx4a65c_size_8abf5 0 = .ok (.aload_n 0, 1) := by decide +kernel
theorem dJx4a65c_size_8abf5_1 : decode cJx4a65c_size_8abf5 1 = .ok (.getfield 48, 3) := by decide +kernel
theorem dJx4a65c_size_8abf5_4 : decode cJx4a65c_size_8abf5 4 = .ok (.ireturn, 1) := by decide +kernel
def wJx4a65c_size_8abf5 (l0 : Nat) (σ : kx_S) (Q : Int32 → kx_S → Prop) : Prop := xt σ l0 = 1 ∧ Q (xi σ 18 l0) σ
set_option maxRecDepth 100000 in
set_option maxHeartbeats 4000000 in
theorem hx_Jx4a65c_size_8abf5 (l : Launch) (G : kx_G) (l0 : Nat) (σ : kx_S) (Q : Int32 → kx_S → Prop) (h : wJx4a65c_size_8abf5 l0 σ Q) : kx_M l G yJx4a65c_size_8abf5 cJx4a65c_size_8abf5 1 (some .int) (0) (0) [.ref l0] σ (kx_ri Q) := by
  refine kx_enter (by decide) rfl (Nat.le_of_ble_eq_true rfl) ?_
  intro p e s m below meth c ls F hr hlocks C hname hl
  have hl : lv_has ls 1 [(0, .ref l0)] := hl
  obtain ⟨H, eH⟩ : ∃ z9, z9 = s.heap := ⟨_, rfl⟩
  obtain ⟨locs, eL⟩ : ∃ z9 : List Loc, z9 = [] := ⟨_, rfl⟩
  rw [← eH, ← eL] at C
  rw [← eH, ← eL]
  obtain ⟨σ0, e0⟩ : ∃ z9, z9 = σ := ⟨_, rfl⟩
  have C : kx_X G (xc σ0) s H locs σ := by rw [e0]; exact C
  suffices hgo : kx_W p l e (0) (0) (xc σ0) s m ([.ref l0] : List Value).toArray below meth c H locs σ (MQ below (kx_Q G σ0 (kx_ri Q)) ([.ref l0] : List Value).toArray s (kx_N - xc σ0) (600 * (kx_N - xc σ0)) (kx_A G)) (F0 m 0 ls []) by rw [e0] at hgo; exact hgo
  clear e0
  refine lv_aload_n F.1 F.2.1 dJx4a65c_size_8abf5_0 rfl (lv_at hl 0 rfl) ?_
  obtain ⟨ht1, h⟩ := h
  refine xg_Jx4a65c_size F C ht1 ux_145 (fun _ h9 => h9) dJx4a65c_size_8abf5_1 ?_
  exact kx_iret F C hr hlocks h dJx4a65c_size_8abf5_4
section
variable {p : Program} {l : Launch} {e : Env} {fr lo c0 : Nat} {s : State} {m : MethodId} {args : Array Value} {below : List Frame} {meth : Method} {c : Code} {H : Heap} {locs : List Loc} {Q : State → Prop}
variable {cc : ByteArray} {pc nL index : Nat} {ls : Array Slot} {rest : List Value} {G : kx_G} {σ : kx_S} {own : String}
theorem xk_Jx4a65c_size_8abf5 {P : Int32 → kx_S → Prop} (F : CallFix p m c cc nL s args kt_ own) (C : kx_X G c0 s H locs σ) (l0 : Nat) (ha : xt σ l0 = 1) (h : wJx4a65c_size_8abf5 l0 σ P) (hw : Cond.methodLink own index pz_lsize ∈ kt_) (h1 : (0) + 1 ≤ fr) (h2 : 8 + (1 + 11) + (0) ≤ lo) {count : Nat} (hsz : ls.size = nL) (hW : (rest.map fun v => v.category).sum ≤ 8) (hdg : decode cc pc = .ok (.invokeinterface index count, 5)) (kk : ∀ (r : Int32) (u : kx_S) (H1 : Heap) (locs1 : List Loc), P r u → kx_X G c0 s H1 locs1 u → kx_W p l e fr lo c0 s m args below meth c H1 locs1 u Q (F0 m (pc + 5) ls (.int r :: rest))) : kx_W p l e fr lo c0 s m args below meth c H locs σ Q (F0 m pc ls (.ref l0 :: rest)) :=
  kx_cF (n := 0) (As := []) F C ha (hx_Jx4a65c_size_8abf5 l G l0 σ P h) hw ux_147 ux_148 ux_25 ux_146 C.2.2.1.2.2.2.1.2.2.1.1 (by decide +kernel) ⟨h1, h2⟩ rfl hsz hW hdg (fun v u H1 locs1 hP9 C9 => by obtain ⟨r, hv, hp⟩ := hP9; subst hv; exact kk r u H1 locs1 hp C9)
end
theorem dJx4a65c_elementData_915e3_0 : decode cJx4a65c_elementData_915e3 0 = .ok (.aload_n 0, 1) := by decide +kernel
theorem dJx4a65c_elementData_915e3_1 : decode cJx4a65c_elementData_915e3 1 = .ok (.getfield 9, 3) := by decide +kernel
theorem dJx4a65c_elementData_915e3_4 : decode cJx4a65c_elementData_915e3 4 = .ok (.iload_n 1, 1) := by decide +kernel
theorem dJx4a65c_elementData_915e3_5 : decode cJx4a65c_elementData_915e3 5 = .ok (.aaload, 1) := by decide +kernel
theorem dJx4a65c_elementData_915e3_6 : decode cJx4a65c_elementData_915e3 6 = .ok (.areturn, 1) := by decide +kernel
def wJx4a65c_elementData_915e3 (l0 : Nat) (l1 : Int32) (σ : kx_S) (Q : Option Nat → kx_S → Prop) : Prop := xt σ l0 = 1 ∧ ∃ a2, xr σ 17 l0 = some a2 ∧ xt σ a2 = 22 ∧ vp_in l1 (xn σ a2) ∧ Q (xar σ a2 l1.toNatClampNeg) σ
set_option maxRecDepth 100000 in
set_option maxHeartbeats 4000000 in
theorem hx_Jx4a65c_elementData_915e3 (l : Launch) (G : kx_G) (l0 : Nat) (l1 : Int32) (σ : kx_S) (Q : Option Nat → kx_S → Prop) (h : wJx4a65c_elementData_915e3 l0 l1 σ Q) : kx_M l G yJx4a65c_elementData_915e3 cJx4a65c_elementData_915e3 2 (some (.object "java/lang/Object")) (0) (0) [.ref l0, .int l1] σ (kx_rq Q) := by
  refine kx_enter (by decide) rfl (Nat.le_of_ble_eq_true rfl) ?_
  intro p e s m below meth c ls F hr hlocks C hname hl
  have hl : lv_has ls 2 [(0, .ref l0), (1, .int l1)] := hl
  obtain ⟨H, eH⟩ : ∃ z9, z9 = s.heap := ⟨_, rfl⟩
  obtain ⟨locs, eL⟩ : ∃ z9 : List Loc, z9 = [] := ⟨_, rfl⟩
  rw [← eH, ← eL] at C
  rw [← eH, ← eL]
  obtain ⟨σ0, e0⟩ : ∃ z9, z9 = σ := ⟨_, rfl⟩
  have C : kx_X G (xc σ0) s H locs σ := by rw [e0]; exact C
  suffices hgo : kx_W p l e (0) (0) (xc σ0) s m ([.ref l0, .int l1] : List Value).toArray below meth c H locs σ (MQ below (kx_Q G σ0 (kx_rq Q)) ([.ref l0, .int l1] : List Value).toArray s (kx_N - xc σ0) (600 * (kx_N - xc σ0)) (kx_A G)) (F0 m 0 ls []) by rw [e0] at hgo; exact hgo
  clear e0
  refine lv_aload_n F.1 F.2.1 dJx4a65c_elementData_915e3_0 rfl (lv_at hl 0 rfl) ?_
  obtain ⟨ht1, h⟩ := h
  refine xg_Jx4a65c_elementData F C ht1 ux_142 (fun _ h9 => h9) dJx4a65c_elementData_915e3_1 ?_
  obtain ⟨a2, ea3, h⟩ := h
  refine xq_nn ea3 ?_
  refine lv_iload_n F.1 F.2.1 dJx4a65c_elementData_915e3_4 rfl (lv_at hl 1 rfl) ?_
  obtain ⟨ht4, h⟩ := h
  obtain ⟨hn5, h⟩ := h
  refine kx_aald F C ht4 hn5 dJx4a65c_elementData_915e3_5 ?_
  exact kx_qret (v := (xar σ a2 l1.toNatClampNeg)) F C hr (Or.inl ⟨_, rfl⟩) hlocks h dJx4a65c_elementData_915e3_6
section
variable {p : Program} {l : Launch} {e : Env} {fr lo c0 : Nat} {s : State} {m : MethodId} {args : Array Value} {below : List Frame} {meth : Method} {c : Code} {H : Heap} {locs : List Loc} {Q : State → Prop}
variable {cc : ByteArray} {pc nL index : Nat} {ls : Array Slot} {rest : List Value} {G : kx_G} {σ : kx_S} {own : String}
theorem xk_Jx4a65c_elementData_915e3 {P : Option Nat → kx_S → Prop} (F : CallFix p m c cc nL s args kt_ own) (C : kx_X G c0 s H locs σ) (l0 : Nat) (l1 : Int32) (ha : xt σ l0 = 1) (h : wJx4a65c_elementData_915e3 l0 l1 σ P) (hw : Cond.methodLink own index yJx4a65c_elementData_915e3 ∈ kt_) (h1 : (0) + 1 ≤ fr) (h2 : 8 + (2 + 11) + (0) ≤ lo) (hsz : ls.size = nL) (hW : (rest.map fun v => v.category).sum ≤ 8) (hdg : decode cc pc = .ok (.invokevirtual index, 3)) (kk : ∀ (r : Option Nat) (u : kx_S) (H1 : Heap) (locs1 : List Loc), P r u → kx_X G c0 s H1 locs1 u → kx_W p l e fr lo c0 s m args below meth c H1 locs1 u Q (F0 m (pc + 3) ls (va_rf r :: rest))) : kx_W p l e fr lo c0 s m args below meth c H locs σ Q (F0 m pc ls (.int l1 :: .ref l0 :: rest)) :=
  kx_cV (n := 1) (As := [.int l1]) (Cn := RJx4a65c) F C (hx_Jx4a65c_elementData_915e3 l G l0 l1 σ P h) (kt_V hw ux_150 ux_151 ux_25 ux_149) (by decide +kernel) ⟨h1, h2⟩ (kx_recv C (by rw [ha]; decide) (kx_e1 ha) rfl) rfl hsz hW hdg (fun v u H1 locs1 hP9 C9 => by obtain ⟨r, hv, hp⟩ := hP9; subst hv; exact kk r u H1 locs1 hp C9)
end
theorem dJx4a65c_get_915e3_0 : decode cJx4a65c_get_915e3 0 = .ok (.iload_n 1, 1) := by decide +kernel
theorem dJx4a65c_get_915e3_1 : decode cJx4a65c_get_915e3 1 = .ok (.aload_n 0, 1) := by decide +kernel
theorem dJx4a65c_get_915e3_2 : decode cJx4a65c_get_915e3 2 = .ok (.getfield 48, 3) := by decide +kernel
theorem dJx4a65c_get_915e3_5 : decode cJx4a65c_get_915e3 5 = .ok (.invokestatic 118, 3) := by decide +kernel
theorem dJx4a65c_get_915e3_8 : decode cJx4a65c_get_915e3 8 = .ok (.pop, 1) := by decide +kernel
theorem dJx4a65c_get_915e3_9 : decode cJx4a65c_get_915e3 9 = .ok (.aload_n 0, 1) := by decide +kernel
theorem dJx4a65c_get_915e3_10 : decode cJx4a65c_get_915e3 10 = .ok (.iload_n 1, 1) := by decide +kernel
theorem dJx4a65c_get_915e3_11 : decode cJx4a65c_get_915e3 11 = .ok (.invokevirtual 123, 3) := by decide +kernel
theorem dJx4a65c_get_915e3_14 : decode cJx4a65c_get_915e3 14 = .ok (.areturn, 1) := by decide +kernel
def wJx4a65c_get_915e3 (l0 : Nat) (l1 : Int32) (σ : kx_S) (Q : Option Nat → kx_S → Prop) : Prop := xt σ l0 = 1 ∧ wJ15_checkIndex_7cf53 l1 (xi σ 18 l0) σ (fun r3 σ2 => xt σ2 l0 = 1 ∧ wJx4a65c_elementData_915e3 l0 l1 σ2 (fun q5 σ4 => Q q5 σ4))
set_option maxRecDepth 100000 in
set_option maxHeartbeats 4000000 in
theorem hx_Jx4a65c_get_915e3 (l : Launch) (G : kx_G) (l0 : Nat) (l1 : Int32) (σ : kx_S) (Q : Option Nat → kx_S → Prop) (h : wJx4a65c_get_915e3 l0 l1 σ Q) : kx_M l G yJx4a65c_get_915e3 cJx4a65c_get_915e3 2 (some (.object "java/lang/Object")) (2) (43) [.ref l0, .int l1] σ (kx_rq Q) := by
  refine kx_enter (by decide) rfl (Nat.le_of_ble_eq_true rfl) ?_
  intro p e s m below meth c ls F hr hlocks C hname hl
  have hl : lv_has ls 2 [(0, .ref l0), (1, .int l1)] := hl
  obtain ⟨H, eH⟩ : ∃ z9, z9 = s.heap := ⟨_, rfl⟩
  obtain ⟨locs, eL⟩ : ∃ z9 : List Loc, z9 = [] := ⟨_, rfl⟩
  rw [← eH, ← eL] at C
  rw [← eH, ← eL]
  obtain ⟨σ0, e0⟩ : ∃ z9, z9 = σ := ⟨_, rfl⟩
  have C : kx_X G (xc σ0) s H locs σ := by rw [e0]; exact C
  suffices hgo : kx_W p l e (2) (43) (xc σ0) s m ([.ref l0, .int l1] : List Value).toArray below meth c H locs σ (MQ below (kx_Q G σ0 (kx_rq Q)) ([.ref l0, .int l1] : List Value).toArray s (kx_N - xc σ0) (600 * (kx_N - xc σ0)) (kx_A G)) (F0 m 0 ls []) by rw [e0] at hgo; exact hgo
  clear e0
  refine lv_iload_n F.1 F.2.1 dJx4a65c_get_915e3_0 rfl (lv_at hl 1 rfl) ?_
  refine lv_aload_n F.1 F.2.1 dJx4a65c_get_915e3_1 rfl (lv_at hl 0 rfl) ?_
  obtain ⟨ht1, h⟩ := h
  refine xg_Jx4a65c_size F C ht1 ux_145 (fun _ h9 => h9) dJx4a65c_get_915e3_2 ?_
  refine xk_J15_checkIndex_7cf53 F C l1 (xi σ 18 l0) h ux_152 (Nat.le_of_ble_eq_true rfl) (Nat.le_of_ble_eq_true rfl) hl.1 (by simp [Value.category]) dJx4a65c_get_915e3_5 (fun r3 σ2 H locs h C => ?_)
  refine lv_pop F.1 F.2.1 dJx4a65c_get_915e3_8 rfl ?_
  refine lv_aload_n F.1 F.2.1 dJx4a65c_get_915e3_9 rfl (lv_at hl 0 rfl) ?_
  refine lv_iload_n F.1 F.2.1 dJx4a65c_get_915e3_10 rfl (lv_at hl 1 rfl) ?_
  obtain ⟨ht6, h⟩ := h
  refine xk_Jx4a65c_elementData_915e3 F C l0 l1 ht6 h ux_153 (Nat.le_of_ble_eq_true rfl) (Nat.le_of_ble_eq_true rfl) hl.1 (by simp [Value.category]) dJx4a65c_get_915e3_11 (fun q5 σ4 H locs h C => ?_)
  exact kx_qret (v := q5) F C hr (Or.inl ⟨_, rfl⟩) hlocks h dJx4a65c_get_915e3_14
section
variable {p : Program} {l : Launch} {e : Env} {fr lo c0 : Nat} {s : State} {m : MethodId} {args : Array Value} {below : List Frame} {meth : Method} {c : Code} {H : Heap} {locs : List Loc} {Q : State → Prop}
variable {cc : ByteArray} {pc nL index : Nat} {ls : Array Slot} {rest : List Value} {G : kx_G} {σ : kx_S} {own : String}
theorem xk_Jx4a65c_get_915e3 {P : Option Nat → kx_S → Prop} (F : CallFix p m c cc nL s args kt_ own) (C : kx_X G c0 s H locs σ) (l0 : Nat) (l1 : Int32) (ha : xt σ l0 = 1) (h : wJx4a65c_get_915e3 l0 l1 σ P) (hw : Cond.methodLink own index pz_lget ∈ kt_) (h1 : (2) + 1 ≤ fr) (h2 : 8 + (2 + 11) + (43) ≤ lo) {count : Nat} (hsz : ls.size = nL) (hW : (rest.map fun v => v.category).sum ≤ 8) (hdg : decode cc pc = .ok (.invokeinterface index count, 5)) (kk : ∀ (r : Option Nat) (u : kx_S) (H1 : Heap) (locs1 : List Loc), P r u → kx_X G c0 s H1 locs1 u → kx_W p l e fr lo c0 s m args below meth c H1 locs1 u Q (F0 m (pc + 5) ls (va_rf r :: rest))) : kx_W p l e fr lo c0 s m args below meth c H locs σ Q (F0 m pc ls (.int l1 :: .ref l0 :: rest)) :=
  kx_cF (n := 1) (As := [.int l1]) F C ha (hx_Jx4a65c_get_915e3 l G l0 l1 σ P h) hw ux_155 ux_156 ux_25 ux_154 C.2.2.1.2.2.2.1.2.2.1.2.2.1 (by decide +kernel) ⟨h1, h2⟩ rfl hsz hW hdg (fun v u H1 locs1 hP9 C9 => by obtain ⟨r, hv, hp⟩ := hP9; subst hv; exact kk r u H1 locs1 hp C9)
end
theorem dJ8_newLength_cabcc_0 : decode cJ8_newLength_cabcc 0 = .ok (.iload_n 0, 1) := by decide +kernel
theorem dJ8_newLength_cabcc_1 : decode cJ8_newLength_cabcc 1 = .ok (.iload_n 1, 1) := by decide +kernel
theorem dJ8_newLength_cabcc_2 : decode cJ8_newLength_cabcc 2 = .ok (.iload_n 2, 1) := by decide +kernel
theorem dJ8_newLength_cabcc_3 : decode cJ8_newLength_cabcc 3 = .ok (.invokestatic 194, 3) := by decide +kernel
theorem dJ8_newLength_cabcc_6 : decode cJ8_newLength_cabcc 6 = .ok (.iadd, 1) := by decide +kernel
theorem dJ8_newLength_cabcc_7 : decode cJ8_newLength_cabcc 7 = .ok (.istore_n 3, 1) := by decide +kernel
theorem dJ8_newLength_cabcc_8 : decode cJ8_newLength_cabcc 8 = .ok (.iconst 0, 1) := by decide +kernel
theorem dJ8_newLength_cabcc_9 : decode cJ8_newLength_cabcc 9 = .ok (.iload_n 3, 1) := by decide +kernel
theorem dJ8_newLength_cabcc_10 : decode cJ8_newLength_cabcc 10 = .ok (.if_icmp .ge 11, 3) := by decide +kernel
theorem dJ8_newLength_cabcc_13 : decode cJ8_newLength_cabcc 13 = .ok (.iload_n 3, 1) := by decide +kernel
theorem dJ8_newLength_cabcc_14 : decode cJ8_newLength_cabcc 14 = .ok (.ldc 200, 2) := by decide +kernel
theorem dJ8_newLength_cabcc_16 : decode cJ8_newLength_cabcc 16 = .ok (.if_icmp .gt 5, 3) := by decide +kernel
theorem dJ8_newLength_cabcc_19 : decode cJ8_newLength_cabcc 19 = .ok (.iload_n 3, 1) := by decide +kernel
theorem dJ8_newLength_cabcc_20 : decode cJ8_newLength_cabcc 20 = .ok (.ireturn, 1) := by decide +kernel
theorem dJ8_newLength_cabcc_21 : decode cJ8_newLength_cabcc 21 = .ok (.iload_n 0, 1) := by decide +kernel
theorem dJ8_newLength_cabcc_22 : decode cJ8_newLength_cabcc 22 = .ok (.iload_n 1, 1) := by decide +kernel
theorem dJ8_newLength_cabcc_23 : decode cJ8_newLength_cabcc 23 = .ok (.invokestatic 201, 3) := by decide +kernel
def wJ8_newLength_cabcc_21 (Q : Int32 → kx_S → Prop) (l0 : Int32) (l1 : Int32) (σ : kx_S) : Prop := False
def wJ8_newLength_cabcc (l0 : Int32) (l1 : Int32) (l2 : Int32) (σ : kx_S) (Q : Int32 → kx_S → Prop) : Prop := ∀ v1, v1 = (if l1 < l2 then l2 else l1) → ∀ v2, v2 = l0 + v1 → ((v2 ≤ 0 → wJ8_newLength_cabcc_21 Q l0 l1 σ) ∧
  (¬ (v2 ≤ 0) → ((2147483639 < v2 → wJ8_newLength_cabcc_21 Q l0 l1 σ) ∧
    (¬ (2147483639 < v2) → Q v2 σ))))
set_option maxRecDepth 100000 in
set_option maxHeartbeats 4000000 in
theorem tJ8_newLength_cabcc_21 (l : Launch) (G : kx_G) (σ0 : kx_S) {p : Program} {e : Env} {s : State} {m : MethodId} {args : Array Value} {below : List Frame} {meth : Method} {c : Code} (F : CallFix p m c cJ8_newLength_cabcc 4 s args kt_ RJ8) (hr : meth.sig.returnType = (some .int)) (hlocks : meth.locks = false) (Q : Int32 → kx_S → Prop) : ∀ (l0 : Int32) (l1 : Int32) (σ : kx_S) (H : Heap) (locs : List Loc) (ls : Array Slot), wJ8_newLength_cabcc_21 Q l0 l1 σ → kx_X G (xc σ0) s H locs σ → lv_has ls 4 [(0, .int l0), (1, .int l1)] → kx_W p l e (1) (14) (xc σ0) s m args below meth c H locs σ (MQ below (kx_Q G σ0 (kx_ri Q)) args s (kx_N - xc σ0) (600 * (kx_N - xc σ0)) (kx_A G)) (F0 m 21 ls []) := by
  intro l0 l1 σ H locs ls h C hl
  refine lv_iload_n F.1 F.2.1 dJ8_newLength_cabcc_21 rfl (lv_at hl 0 rfl) ?_
  refine lv_iload_n F.1 F.2.1 dJ8_newLength_cabcc_22 rfl (lv_at hl 1 rfl) ?_
  exact h.elim
set_option maxRecDepth 100000 in
set_option maxHeartbeats 4000000 in
theorem hx_J8_newLength_cabcc (l : Launch) (G : kx_G) (l0 : Int32) (l1 : Int32) (l2 : Int32) (σ : kx_S) (Q : Int32 → kx_S → Prop) (h : wJ8_newLength_cabcc l0 l1 l2 σ Q) : kx_M l G yJ8_newLength_cabcc cJ8_newLength_cabcc 4 (some .int) (1) (14) [.int l0, .int l1, .int l2] σ (kx_ri Q) := by
  refine kx_enter (by decide) rfl (Nat.le_of_ble_eq_true rfl) ?_
  intro p e s m below meth c ls F hr hlocks C hname hl
  have hl : lv_has ls 4 [(0, .int l0), (1, .int l1), (2, .int l2)] := hl
  obtain ⟨H, eH⟩ : ∃ z9, z9 = s.heap := ⟨_, rfl⟩
  obtain ⟨locs, eL⟩ : ∃ z9 : List Loc, z9 = [] := ⟨_, rfl⟩
  rw [← eH, ← eL] at C
  rw [← eH, ← eL]
  obtain ⟨σ0, e0⟩ : ∃ z9, z9 = σ := ⟨_, rfl⟩
  have C : kx_X G (xc σ0) s H locs σ := by rw [e0]; exact C
  suffices hgo : kx_W p l e (1) (14) (xc σ0) s m ([.int l0, .int l1, .int l2] : List Value).toArray below meth c H locs σ (MQ below (kx_Q G σ0 (kx_ri Q)) ([.int l0, .int l1, .int l2] : List Value).toArray s (kx_N - xc σ0) (600 * (kx_N - xc σ0)) (kx_A G)) (F0 m 0 ls []) by rw [e0] at hgo; exact hgo
  clear e0
  refine lv_iload_n F.1 F.2.1 dJ8_newLength_cabcc_0 rfl (lv_at hl 0 rfl) ?_
  refine lv_iload_n F.1 F.2.1 dJ8_newLength_cabcc_1 rfl (lv_at hl 1 rfl) ?_
  refine lv_iload_n F.1 F.2.1 dJ8_newLength_cabcc_2 rfl (lv_at hl 2 rfl) ?_
  refine kx_max F C ux_157 (Nat.le_of_ble_eq_true rfl) (by simp [Value.category]) hl.1 dJ8_newLength_cabcc_3 ?_
  refine lv_topi (fun v1 ev1 => ?_)
  replace h := h v1 ev1
  refine lv_iadd (x := l0) (y := v1) F.1 F.2.1 dJ8_newLength_cabcc_6 ?_
  refine lv_topi (fun v2 ev2 => ?_)
  replace h := h v2 ev2
  refine lv_istore_n (lv' := [(3, .int v2), (0, .int l0), (1, .int l1), (2, .int l2)]) F.1 F.2.1 dJ8_newLength_cabcc_7 rfl hl (by decide) rfl (fun ls hl => ?_)
  refine lv_iconst (v := 0) F.1 F.2.1 dJ8_newLength_cabcc_8 (by decide) ?_
  refine lv_iload_n F.1 F.2.1 dJ8_newLength_cabcc_9 rfl (lv_at hl 0 rfl) ?_
  refine lv_icmp_ge (tgt := 21) F.1 F.2.1 dJ8_newLength_cabcc_10 (by decide) (fun c3 => ?_) (fun c3 => ?_)
  · replace h := h.1 c3
    exact tJ8_newLength_cabcc_21 l G σ0 F hr hlocks Q l0 l1 σ H locs ls h C (lv_sub hl [1, 2] rfl)
  · replace h := h.2 c3
    refine lv_iload_n F.1 F.2.1 dJ8_newLength_cabcc_13 rfl (lv_at hl 0 rfl) ?_
    refine lv_ldc (v := 2147483639) F.1 F.2.1 F.2.2.2.1 (F.2.2.2.2 _ ux_158) dJ8_newLength_cabcc_14 ?_
    refine lv_icmp_gt (tgt := 21) F.1 F.2.1 dJ8_newLength_cabcc_16 (by decide) (fun c4 => ?_) (fun c4 => ?_)
    · replace h := h.1 c4
      exact tJ8_newLength_cabcc_21 l G σ0 F hr hlocks Q l0 l1 σ H locs ls h C (lv_sub hl [1, 2] rfl)
    · replace h := h.2 c4
      refine lv_iload_n F.1 F.2.1 dJ8_newLength_cabcc_19 rfl (lv_at hl 0 rfl) ?_
      exact kx_iret F C hr hlocks h dJ8_newLength_cabcc_20
section
variable {p : Program} {l : Launch} {e : Env} {fr lo c0 : Nat} {s : State} {m : MethodId} {args : Array Value} {below : List Frame} {meth : Method} {c : Code} {H : Heap} {locs : List Loc} {Q : State → Prop}
variable {cc : ByteArray} {pc nL index : Nat} {ls : Array Slot} {rest : List Value} {G : kx_G} {σ : kx_S} {own : String}
theorem xk_J8_newLength_cabcc {P : Int32 → kx_S → Prop} (F : CallFix p m c cc nL s args kt_ own) (C : kx_X G c0 s H locs σ) (l0 : Int32) (l1 : Int32) (l2 : Int32) (h : wJ8_newLength_cabcc l0 l1 l2 σ P) (hw : Cond.methodLink own index yJ8_newLength_cabcc ∈ kt_) (h1 : (1) + 1 ≤ fr) (h2 : 8 + (4 + 11) + (14) ≤ lo) (hsz : ls.size = nL) (hW : (rest.map fun v => v.category).sum ≤ 8) (hdg : decode cc pc = .ok (.invokestatic index, 3)) (kk : ∀ (r : Int32) (u : kx_S) (H1 : Heap) (locs1 : List Loc), P r u → kx_X G c0 s H1 locs1 u → kx_W p l e fr lo c0 s m args below meth c H1 locs1 u Q (F0 m (pc + 3) ls (.int r :: rest))) : kx_W p l e fr lo c0 s m args below meth c H locs σ Q (F0 m pc ls (.int l2 :: .int l1 :: .int l0 :: rest)) :=
  kx_cS (n := 3) (As := [.int l0, .int l1, .int l2]) F C (hx_J8_newLength_cabcc l G l0 l1 l2 σ P h) (kt_S hw ux_161 ux_160 ux_159) (by decide +kernel) ⟨h1, h2⟩ rfl hsz hW hdg (fun v u H1 locs1 hP9 C9 => by obtain ⟨r, hv, hp⟩ := hP9; subst hv; exact kk r u H1 locs1 hp C9)
end
theorem dJ7_copyOf_6403c_0 : decode cJ7_copyOf_6403c 0 = .ok (.aload_n 2, 1) := by decide +kernel
theorem dJ7_copyOf_6403c_1 : decode cJ7_copyOf_6403c 1 = .ok (.ldc 110, 2) := by decide +kernel
theorem dJ7_copyOf_6403c_3 : decode cJ7_copyOf_6403c 3 = .ok (.if_acmp .ne 10, 3) := by decide +kernel
theorem dJ7_copyOf_6403c_6 : decode cJ7_copyOf_6403c 6 = .ok (.iload_n 1, 1) := by decide +kernel
theorem dJ7_copyOf_6403c_7 : decode cJ7_copyOf_6403c 7 = .ok (.anewarray 2, 3) := by decide +kernel
theorem dJ7_copyOf_6403c_10 : decode cJ7_copyOf_6403c 10 = .ok (.goto 14, 3) := by decide +kernel
theorem dJ7_copyOf_6403c_24 : decode cJ7_copyOf_6403c 24 = .ok (.astore_n 3, 1) := by decide +kernel
theorem dJ7_copyOf_6403c_25 : decode cJ7_copyOf_6403c 25 = .ok (.aload_n 0, 1) := by decide +kernel
theorem dJ7_copyOf_6403c_26 : decode cJ7_copyOf_6403c 26 = .ok (.iconst 0, 1) := by decide +kernel
theorem dJ7_copyOf_6403c_27 : decode cJ7_copyOf_6403c 27 = .ok (.aload_n 3, 1) := by decide +kernel
theorem dJ7_copyOf_6403c_28 : decode cJ7_copyOf_6403c 28 = .ok (.iconst 0, 1) := by decide +kernel
theorem dJ7_copyOf_6403c_29 : decode cJ7_copyOf_6403c 29 = .ok (.aload_n 0, 1) := by decide +kernel
theorem dJ7_copyOf_6403c_30 : decode cJ7_copyOf_6403c 30 = .ok (.arraylength, 1) := by decide +kernel
theorem dJ7_copyOf_6403c_31 : decode cJ7_copyOf_6403c 31 = .ok (.iload_n 1, 1) := by decide +kernel
theorem dJ7_copyOf_6403c_32 : decode cJ7_copyOf_6403c 32 = .ok (.invokestatic 304, 3) := by decide +kernel
theorem dJ7_copyOf_6403c_35 : decode cJ7_copyOf_6403c 35 = .ok (.invokestatic 150, 3) := by decide +kernel
theorem dJ7_copyOf_6403c_38 : decode cJ7_copyOf_6403c 38 = .ok (.aload_n 3, 1) := by decide +kernel
theorem dJ7_copyOf_6403c_39 : decode cJ7_copyOf_6403c 39 = .ok (.areturn, 1) := by decide +kernel
def wJ7_copyOf_6403c_24 (Q : Nat → kx_S → Prop) (l0 : Nat) (l1 : Int32) (s0 : Nat) (σ : kx_S) : Prop := xt σ l0 = 22 ∧ ∀ v2, v2 = (if l1 < (nI (xn σ l0)) then l1 else (nI (xn σ l0))) → xt σ s0 = 22 ∧ ¬ (0 : Int32) < 0 ∧ ¬ (0 : Int32) < 0 ∧ ¬ v2 < 0 ∧ (Int32.toNatClampNeg 0) + v2.toNatClampNeg ≤ xn σ l0 ∧ (Int32.toNatClampNeg 0) + v2.toNatClampNeg ≤ xn σ s0 ∧ (∀ i : Nat, i < v2.toNatClampNeg → ∀ y : Nat, xar σ l0 ((Int32.toNatClampNeg 0) + i) = some y → kx_el (xt σ y)) ∧ ∀ σ10, σ10 = xsAR σ s0 (va_cpy (xar σ l0) (xar σ s0) (Int32.toNatClampNeg 0) (Int32.toNatClampNeg 0) v2.toNatClampNeg) → Q s0 σ10
def wJ7_copyOf_6403c (l0 : Nat) (l1 : Int32) (σ : kx_S) (Q : Nat → kx_S → Prop) : Prop := xc σ < kx_N ∧ ¬ l1 < 0 ∧ l1.toNatClampNeg ≤ 600 ∧ ∀ p14, xt σ p14 = 0 → p14 ≠ xz σ → ∀ σ20, σ20 = xnewA σ p14 22 l1.toNatClampNeg → wJ7_copyOf_6403c_24 Q l0 l1 p14 σ20
set_option maxRecDepth 100000 in
set_option maxHeartbeats 4000000 in
theorem tJ7_copyOf_6403c_24 (l : Launch) (G : kx_G) (σ0 : kx_S) {p : Program} {e : Env} {s : State} {m : MethodId} {args : Array Value} {below : List Frame} {meth : Method} {c : Code} (F : CallFix p m c cJ7_copyOf_6403c 4 s args kt_ RJ7) (hr : meth.sig.returnType = (some (.array (.object "java/lang/Object")))) (hlocks : meth.locks = false) (Q : Nat → kx_S → Prop) : ∀ (l0 : Nat) (l1 : Int32) (s0 : Nat) (σ : kx_S) (H : Heap) (locs : List Loc) (ls : Array Slot), wJ7_copyOf_6403c_24 Q l0 l1 s0 σ → kx_X G (xc σ0) s H locs σ → lv_has ls 4 [(0, .ref l0), (1, .int l1)] → kx_W p l e (1) (100) (xc σ0) s m args below meth c H locs σ (MQ below (kx_Q G σ0 (kx_ra Q)) args s (kx_N - xc σ0) (600 * (kx_N - xc σ0)) (kx_A G)) (F0 m 24 ls [.ref s0]) := by
  intro l0 l1 s0 σ H locs ls h C hl
  refine lv_astore_n (lv' := [(3, .ref s0), (0, .ref l0), (1, .int l1)]) F.1 F.2.1 dJ7_copyOf_6403c_24 rfl hl (by decide) rfl (fun ls hl => ?_)
  refine lv_aload_n F.1 F.2.1 dJ7_copyOf_6403c_25 rfl (lv_at hl 1 rfl) ?_
  refine lv_iconst (v := 0) F.1 F.2.1 dJ7_copyOf_6403c_26 (by decide) ?_
  refine lv_aload_n F.1 F.2.1 dJ7_copyOf_6403c_27 rfl (lv_at hl 0 rfl) ?_
  refine lv_iconst (v := 0) F.1 F.2.1 dJ7_copyOf_6403c_28 (by decide) ?_
  refine lv_aload_n F.1 F.2.1 dJ7_copyOf_6403c_29 rfl (lv_at hl 1 rfl) ?_
  obtain ⟨ht1, h⟩ := h
  refine kx_alen F C (Or.inr ht1) dJ7_copyOf_6403c_30 ?_
  refine lv_iload_n F.1 F.2.1 dJ7_copyOf_6403c_31 rfl (lv_at hl 2 rfl) ?_
  refine kx_min F C ux_162 (Nat.le_of_ble_eq_true rfl) (by simp [Value.category]) hl.1 dJ7_copyOf_6403c_32 ?_
  refine lv_topi (fun v2 ev2 => ?_)
  replace h := h v2 ev2
  obtain ⟨ht3, h⟩ := h
  obtain ⟨hn4, hn5, hn6, hn7, hn8, hn9, h⟩ := h
  refine kx_copyq F C ux_163 ht1 ht3 hn4 hn5 hn6 hn7 hn8 hn9 (Nat.le_of_ble_eq_true rfl) (by simp [Value.category]) hl.1 dJ7_copyOf_6403c_35 (fun H locs C => ?_)
  generalize eσ10 : xsAR σ s0 (va_cpy (xar σ l0) (xar σ s0) (Int32.toNatClampNeg 0) (Int32.toNatClampNeg 0) v2.toNatClampNeg) = σ10 at C ⊢
  replace h := h σ10 eσ10.symm
  have ht11 : xt σ10 l0 = 22 := by rw [← eσ10]; exact ht1
  have ht12 : xt σ10 s0 = 22 := by rw [← eσ10]; exact ht3
  refine lv_aload_n F.1 F.2.1 dJ7_copyOf_6403c_38 rfl (lv_at hl 0 rfl) ?_
  exact kx_aret F C hr (Or.inr ⟨_, rfl⟩) hlocks h dJ7_copyOf_6403c_39
set_option maxRecDepth 100000 in
set_option maxHeartbeats 4000000 in
theorem hx_J7_copyOf_6403c (l : Launch) (G : kx_G) (l0 : Nat) (l1 : Int32) (σ : kx_S) (Q : Nat → kx_S → Prop) (h : wJ7_copyOf_6403c l0 l1 σ Q) : kx_M l G yJ7_copyOf_6403c cJ7_copyOf_6403c 4 (some (.array (.object "java/lang/Object"))) (1) (100) [.ref l0, .int l1, .ref (kx_mi G)] σ (kx_ra Q) := by
  refine kx_enter (by decide) rfl (Nat.le_of_ble_eq_true rfl) ?_
  intro p e s m below meth c ls F hr hlocks C hname hl
  have hl : lv_has ls 4 [(0, .ref l0), (1, .int l1), (2, .ref (kx_mi G))] := hl
  obtain ⟨H, eH⟩ : ∃ z9, z9 = s.heap := ⟨_, rfl⟩
  obtain ⟨locs, eL⟩ : ∃ z9 : List Loc, z9 = [] := ⟨_, rfl⟩
  rw [← eH, ← eL] at C
  rw [← eH, ← eL]
  obtain ⟨σ0, e0⟩ : ∃ z9, z9 = σ := ⟨_, rfl⟩
  have C : kx_X G (xc σ0) s H locs σ := by rw [e0]; exact C
  suffices hgo : kx_W p l e (1) (100) (xc σ0) s m ([.ref l0, .int l1, .ref (kx_mi G)] : List Value).toArray below meth c H locs σ (MQ below (kx_Q G σ0 (kx_ra Q)) ([.ref l0, .int l1, .ref (kx_mi G)] : List Value).toArray s (kx_N - xc σ0) (600 * (kx_N - xc σ0)) (kx_A G)) (F0 m 0 ls []) by rw [e0] at hgo; exact hgo
  clear e0
  refine lv_aload_n F.1 F.2.1 dJ7_copyOf_6403c_0 rfl (lv_at hl 2 rfl) ?_
  refine kx_ldcM F C ux_164 dJ7_copyOf_6403c_1 ?_
  refine lv_acmp_ne (rx := some (kx_mi G)) (ry := some (kx_mi G)) (tgt := 13) F.1 F.2.1 dJ7_copyOf_6403c_3 (by decide) (fun c13 => ?_) (fun c13 => ?_)
  · exact absurd rfl c13
  refine lv_iload_n F.1 F.2.1 dJ7_copyOf_6403c_6 rfl (lv_at hl 1 rfl) ?_
  obtain ⟨hn15, hn16, hn17, h⟩ := h
  refine kx_newq F C ux_165 hn15 hn16 hn17 dJ7_copyOf_6403c_7 (fun p14 H z18 z19 C => ?_)
  replace h := h p14 z18 (fun h9 => z19 (h9.trans (show xz σ = _ from C.2.1.1)))
  generalize eσ20 : xnewA σ p14 22 l1.toNatClampNeg = σ20 at C ⊢
  replace h := h σ20 eσ20.symm
  have ht21 : xt σ20 p14 = 22 := by rw [← eσ20]; exact va_up_self _ _ _
  refine lv_goto (tgt := 24) F.1 F.2.1 dJ7_copyOf_6403c_10 (by decide) ?_
  exact tJ7_copyOf_6403c_24 l G σ0 F hr hlocks Q l0 l1 p14 σ20 H locs ls h C (lv_sub hl [0, 1] rfl)
section
variable {p : Program} {l : Launch} {e : Env} {fr lo c0 : Nat} {s : State} {m : MethodId} {args : Array Value} {below : List Frame} {meth : Method} {c : Code} {H : Heap} {locs : List Loc} {Q : State → Prop}
variable {cc : ByteArray} {pc nL index : Nat} {ls : Array Slot} {rest : List Value} {G : kx_G} {σ : kx_S} {own : String}
theorem xk_J7_copyOf_6403c {P : Nat → kx_S → Prop} (F : CallFix p m c cc nL s args kt_ own) (C : kx_X G c0 s H locs σ) (l0 : Nat) (l1 : Int32) (h : wJ7_copyOf_6403c l0 l1 σ P) (hw : Cond.methodLink own index yJ7_copyOf_6403c ∈ kt_) (h1 : (1) + 1 ≤ fr) (h2 : 8 + (4 + 11) + (100) ≤ lo) (hsz : ls.size = nL) (hW : (rest.map fun v => v.category).sum ≤ 8) (hdg : decode cc pc = .ok (.invokestatic index, 3)) (kk : ∀ (r : Nat) (u : kx_S) (H1 : Heap) (locs1 : List Loc), P r u → kx_X G c0 s H1 locs1 u → kx_W p l e fr lo c0 s m args below meth c H1 locs1 u Q (F0 m (pc + 3) ls (.ref r :: rest))) : kx_W p l e fr lo c0 s m args below meth c H locs σ Q (F0 m pc ls (.ref (kx_mi G) :: .int l1 :: .ref l0 :: rest)) :=
  kx_cS (n := 3) (As := [.ref l0, .int l1, .ref (kx_mi G)]) F C (hx_J7_copyOf_6403c l G l0 l1 σ P h) (kt_S hw ux_168 ux_167 ux_166) (by decide +kernel) ⟨h1, h2⟩ rfl hsz hW hdg (fun v u H1 locs1 hP9 C9 => by obtain ⟨r, hv, hp⟩ := hP9; subst hv; exact kk r u H1 locs1 hp C9)
end
theorem dJ7_copyOf_1904c_0 : decode cJ7_copyOf_1904c 0 = .ok (.aload_n 0, 1) := by decide +kernel
theorem dJ7_copyOf_1904c_1 : decode cJ7_copyOf_1904c 1 = .ok (.iload_n 1, 1) := by decide +kernel
theorem dJ7_copyOf_1904c_2 : decode cJ7_copyOf_1904c 2 = .ok (.aload_n 0, 1) := by decide +kernel
theorem dJ7_copyOf_1904c_3 : decode cJ7_copyOf_1904c 3 = .ok (.invokevirtual 86, 3) := by decide +kernel
theorem dJ7_copyOf_1904c_6 : decode cJ7_copyOf_1904c 6 = .ok (.invokestatic 300, 3) := by decide +kernel
theorem dJ7_copyOf_1904c_9 : decode cJ7_copyOf_1904c 9 = .ok (.areturn, 1) := by decide +kernel
def wJ7_copyOf_1904c (l0 : Nat) (l1 : Int32) (σ : kx_S) (Q : Nat → kx_S → Prop) : Prop := xt σ l0 = 22 ∧ wJ7_copyOf_6403c l0 l1 σ (fun b3 σ2 => Q b3 σ2)
set_option maxRecDepth 100000 in
set_option maxHeartbeats 4000000 in
theorem hx_J7_copyOf_1904c (l : Launch) (G : kx_G) (l0 : Nat) (l1 : Int32) (σ : kx_S) (Q : Nat → kx_S → Prop) (h : wJ7_copyOf_1904c l0 l1 σ Q) : kx_M l G yJ7_copyOf_1904c cJ7_copyOf_1904c 2 (some (.array (.object "java/lang/Object"))) (2) (123) [.ref l0, .int l1] σ (kx_ra Q) := by
  refine kx_enter (by decide) rfl (Nat.le_of_ble_eq_true rfl) ?_
  intro p e s m below meth c ls F hr hlocks C hname hl
  have hl : lv_has ls 2 [(0, .ref l0), (1, .int l1)] := hl
  obtain ⟨H, eH⟩ : ∃ z9, z9 = s.heap := ⟨_, rfl⟩
  obtain ⟨locs, eL⟩ : ∃ z9 : List Loc, z9 = [] := ⟨_, rfl⟩
  rw [← eH, ← eL] at C
  rw [← eH, ← eL]
  obtain ⟨σ0, e0⟩ : ∃ z9, z9 = σ := ⟨_, rfl⟩
  have C : kx_X G (xc σ0) s H locs σ := by rw [e0]; exact C
  suffices hgo : kx_W p l e (2) (123) (xc σ0) s m ([.ref l0, .int l1] : List Value).toArray below meth c H locs σ (MQ below (kx_Q G σ0 (kx_ra Q)) ([.ref l0, .int l1] : List Value).toArray s (kx_N - xc σ0) (600 * (kx_N - xc σ0)) (kx_A G)) (F0 m 0 ls []) by rw [e0] at hgo; exact hgo
  clear e0
  refine lv_aload_n F.1 F.2.1 dJ7_copyOf_1904c_0 rfl (lv_at hl 0 rfl) ?_
  refine lv_iload_n F.1 F.2.1 dJ7_copyOf_1904c_1 rfl (lv_at hl 1 rfl) ?_
  refine lv_aload_n F.1 F.2.1 dJ7_copyOf_1904c_2 rfl (lv_at hl 0 rfl) ?_
  obtain ⟨ht1, h⟩ := h
  refine kx_getC F C ht1 (Nat.le_of_ble_eq_true rfl) (by simp [Value.category]) hl.1 dJ7_copyOf_1904c_3 ?_
  refine xk_J7_copyOf_6403c F C l0 l1 h ux_169 (Nat.le_of_ble_eq_true rfl) (Nat.le_of_ble_eq_true rfl) hl.1 (by simp [Value.category]) dJ7_copyOf_1904c_6 (fun b3 σ2 H locs h C => ?_)
  exact kx_aret F C hr (Or.inr ⟨_, rfl⟩) hlocks h dJ7_copyOf_1904c_9
section
variable {p : Program} {l : Launch} {e : Env} {fr lo c0 : Nat} {s : State} {m : MethodId} {args : Array Value} {below : List Frame} {meth : Method} {c : Code} {H : Heap} {locs : List Loc} {Q : State → Prop}
variable {cc : ByteArray} {pc nL index : Nat} {ls : Array Slot} {rest : List Value} {G : kx_G} {σ : kx_S} {own : String}
theorem xk_J7_copyOf_1904c {P : Nat → kx_S → Prop} (F : CallFix p m c cc nL s args kt_ own) (C : kx_X G c0 s H locs σ) (l0 : Nat) (l1 : Int32) (h : wJ7_copyOf_1904c l0 l1 σ P) (hw : Cond.methodLink own index yJ7_copyOf_1904c ∈ kt_) (h1 : (2) + 1 ≤ fr) (h2 : 8 + (2 + 11) + (123) ≤ lo) (hsz : ls.size = nL) (hW : (rest.map fun v => v.category).sum ≤ 8) (hdg : decode cc pc = .ok (.invokestatic index, 3)) (kk : ∀ (r : Nat) (u : kx_S) (H1 : Heap) (locs1 : List Loc), P r u → kx_X G c0 s H1 locs1 u → kx_W p l e fr lo c0 s m args below meth c H1 locs1 u Q (F0 m (pc + 3) ls (.ref r :: rest))) : kx_W p l e fr lo c0 s m args below meth c H locs σ Q (F0 m pc ls (.int l1 :: .ref l0 :: rest)) :=
  kx_cS (n := 2) (As := [.ref l0, .int l1]) F C (hx_J7_copyOf_1904c l G l0 l1 σ P h) (kt_S hw ux_171 ux_167 ux_170) (by decide +kernel) ⟨h1, h2⟩ rfl hsz hW hdg (fun v u H1 locs1 hP9 C9 => by obtain ⟨r, hv, hp⟩ := hP9; subst hv; exact kk r u H1 locs1 hp C9)
end
theorem dJx4a65c_grow_92f84_0 : decode cJx4a65c_grow_92f84 0 = .ok (.aload_n 0, 1) := by decide +kernel
theorem dJx4a65c_grow_92f84_1 : decode cJx4a65c_grow_92f84 1 = .ok (.getfield 9, 3) := by decide +kernel
theorem dJx4a65c_grow_92f84_4 : decode cJx4a65c_grow_92f84 4 = .ok (.arraylength, 1) := by decide +kernel
theorem dJx4a65c_grow_92f84_5 : decode cJx4a65c_grow_92f84 5 = .ok (.istore_n 2, 1) := by decide +kernel
theorem dJx4a65c_grow_92f84_6 : decode cJx4a65c_grow_92f84 6 = .ok (.iload_n 2, 1) := by decide +kernel
theorem dJx4a65c_grow_92f84_7 : decode cJx4a65c_grow_92f84 7 = .ok (.ifCond .gt 13, 3) := by decide +kernel
theorem dJx4a65c_grow_92f84_10 : decode cJx4a65c_grow_92f84 10 = .ok (.aload_n 0, 1) := by decide +kernel
theorem dJx4a65c_grow_92f84_11 : decode cJx4a65c_grow_92f84 11 = .ok (.getfield 9, 3) := by decide +kernel
theorem dJx4a65c_grow_92f84_14 : decode cJx4a65c_grow_92f84 14 = .ok (.getstatic 39, 3) := by decide +kernel
theorem dJx4a65c_grow_92f84_17 : decode cJx4a65c_grow_92f84 17 = .ok (.if_acmp .eq 28, 3) := by decide +kernel
theorem dJx4a65c_grow_92f84_20 : decode cJx4a65c_grow_92f84 20 = .ok (.iload_n 2, 1) := by decide +kernel
theorem dJx4a65c_grow_92f84_21 : decode cJx4a65c_grow_92f84 21 = .ok (.iload_n 1, 1) := by decide +kernel
theorem dJx4a65c_grow_92f84_22 : decode cJx4a65c_grow_92f84 22 = .ok (.iload_n 2, 1) := by decide +kernel
theorem dJx4a65c_grow_92f84_23 : decode cJx4a65c_grow_92f84 23 = .ok (.isub, 1) := by decide +kernel
theorem dJx4a65c_grow_92f84_24 : decode cJx4a65c_grow_92f84 24 = .ok (.iload_n 2, 1) := by decide +kernel
theorem dJx4a65c_grow_92f84_25 : decode cJx4a65c_grow_92f84 25 = .ok (.iconst 1, 1) := by decide +kernel
theorem dJx4a65c_grow_92f84_26 : decode cJx4a65c_grow_92f84 26 = .ok (.ishr, 1) := by decide +kernel
theorem dJx4a65c_grow_92f84_27 : decode cJx4a65c_grow_92f84 27 = .ok (.invokestatic 73, 3) := by decide +kernel
theorem dJx4a65c_grow_92f84_30 : decode cJx4a65c_grow_92f84 30 = .ok (.istore_n 3, 1) := by decide +kernel
theorem dJx4a65c_grow_92f84_31 : decode cJx4a65c_grow_92f84 31 = .ok (.aload_n 0, 1) := by decide +kernel
theorem dJx4a65c_grow_92f84_32 : decode cJx4a65c_grow_92f84 32 = .ok (.aload_n 0, 1) := by decide +kernel
theorem dJx4a65c_grow_92f84_33 : decode cJx4a65c_grow_92f84 33 = .ok (.getfield 9, 3) := by decide +kernel
theorem dJx4a65c_grow_92f84_36 : decode cJx4a65c_grow_92f84 36 = .ok (.iload_n 3, 1) := by decide +kernel
theorem dJx4a65c_grow_92f84_37 : decode cJx4a65c_grow_92f84 37 = .ok (.invokestatic 66, 3) := by decide +kernel
theorem dJx4a65c_grow_92f84_40 : decode cJx4a65c_grow_92f84 40 = .ok (.dup_x1, 1) := by decide +kernel
theorem dJx4a65c_grow_92f84_41 : decode cJx4a65c_grow_92f84 41 = .ok (.putfield 9, 3) := by decide +kernel
theorem dJx4a65c_grow_92f84_44 : decode cJx4a65c_grow_92f84 44 = .ok (.areturn, 1) := by decide +kernel
theorem dJx4a65c_grow_92f84_45 : decode cJx4a65c_grow_92f84 45 = .ok (.aload_n 0, 1) := by decide +kernel
theorem dJx4a65c_grow_92f84_46 : decode cJx4a65c_grow_92f84 46 = .ok (.bipush 10, 2) := by decide +kernel
theorem dJx4a65c_grow_92f84_48 : decode cJx4a65c_grow_92f84 48 = .ok (.iload_n 1, 1) := by decide +kernel
theorem dJx4a65c_grow_92f84_49 : decode cJx4a65c_grow_92f84 49 = .ok (.invokestatic 79, 3) := by decide +kernel
theorem dJx4a65c_grow_92f84_52 : decode cJx4a65c_grow_92f84 52 = .ok (.anewarray 7, 3) := by decide +kernel
theorem dJx4a65c_grow_92f84_55 : decode cJx4a65c_grow_92f84 55 = .ok (.dup_x1, 1) := by decide +kernel
theorem dJx4a65c_grow_92f84_56 : decode cJx4a65c_grow_92f84 56 = .ok (.putfield 9, 3) := by decide +kernel
theorem dJx4a65c_grow_92f84_59 : decode cJx4a65c_grow_92f84 59 = .ok (.areturn, 1) := by decide +kernel
def wJx4a65c_grow_92f84_20 (Q : Nat → kx_S → Prop) (l0 : Nat) (l1 : Int32) (l2 : Int32) (σ : kx_S) : Prop := wJ8_newLength_cabcc l2 (l1 - l2) (l2 >>> (1 &&& 31)) σ (fun r2 σ1 => xt σ1 l0 = 1 ∧ ∃ a4, xr σ1 17 l0 = some a4 ∧ wJ7_copyOf_1904c a4 r2 σ1 (fun b7 σ6 => xt σ6 l0 = 1 ∧ ∀ σ9, σ9 = xsr σ6 17 l0 (some b7) → Q b7 σ9))
def wJx4a65c_grow_92f84 (l0 : Nat) (l1 : Int32) (σ : kx_S) (Q : Nat → kx_S → Prop) : Prop := xt σ l0 = 1 ∧ ∃ a12, xr σ 17 l0 = some a12 ∧ ((a12 = xz σ → ((0 < (0 : Int32) → wJx4a65c_grow_92f84_20 Q l0 l1 0 σ) ∧
    (¬ (0 < (0 : Int32)) → ∃ a16, xr σ 17 l0 = some a16 ∧ ((some a16 = some (xz σ) → ∀ v19, v19 = (if 10 < l1 then l1 else 10) → xc σ < kx_N ∧ ¬ v19 < 0 ∧ v19.toNatClampNeg ≤ 600 ∧ ∀ p20, xt σ p20 = 0 → p20 ≠ xz σ → ∀ σ26, σ26 = xnewA σ p20 22 v19.toNatClampNeg → xt σ26 l0 = 1 ∧ ∀ σ29, σ29 = xsr σ26 17 l0 (some p20) → Q p20 σ29) ∧
      (¬ (some a16 = some (xz σ)) → wJx4a65c_grow_92f84_20 Q l0 l1 0 σ))))) ∧
  (¬ (a12 = xz σ) → xt σ a12 = 22 ∧ ∀ v33, v33 = nI (xn σ a12) → ((0 < v33 → wJx4a65c_grow_92f84_20 Q l0 l1 v33 σ) ∧
    (¬ (0 < v33) → ∃ a35, xr σ 17 l0 = some a35 ∧ ((some a35 = some (xz σ) → ∀ v38, v38 = (if 10 < l1 then l1 else 10) → xc σ < kx_N ∧ ¬ v38 < 0 ∧ v38.toNatClampNeg ≤ 600 ∧ ∀ p39, xt σ p39 = 0 → p39 ≠ xz σ → ∀ σ45, σ45 = xnewA σ p39 22 v38.toNatClampNeg → xt σ45 l0 = 1 ∧ ∀ σ48, σ48 = xsr σ45 17 l0 (some p39) → Q p39 σ48) ∧
      (¬ (some a35 = some (xz σ)) → wJx4a65c_grow_92f84_20 Q l0 l1 v33 σ))))))
set_option maxRecDepth 100000 in
set_option maxHeartbeats 4000000 in
theorem tJx4a65c_grow_92f84_20 (l : Launch) (G : kx_G) (σ0 : kx_S) {p : Program} {e : Env} {s : State} {m : MethodId} {args : Array Value} {below : List Frame} {meth : Method} {c : Code} (F : CallFix p m c cJx4a65c_grow_92f84 4 s args kt_ RJx4a65c) (hr : meth.sig.returnType = (some (.array (.object "java/lang/Object")))) (hlocks : meth.locks = false) (Q : Nat → kx_S → Prop) : ∀ (l0 : Nat) (l1 : Int32) (l2 : Int32) (σ : kx_S) (H : Heap) (locs : List Loc) (ls : Array Slot), wJx4a65c_grow_92f84_20 Q l0 l1 l2 σ → kx_X G (xc σ0) s H locs σ → lv_has ls 4 [(0, .ref l0), (1, .int l1), (2, .int l2)] → kx_W p l e (3) (144) (xc σ0) s m args below meth c H locs σ (MQ below (kx_Q G σ0 (kx_ra Q)) args s (kx_N - xc σ0) (600 * (kx_N - xc σ0)) (kx_A G)) (F0 m 20 ls []) := by
  intro l0 l1 l2 σ H locs ls h C hl
  refine lv_iload_n F.1 F.2.1 dJx4a65c_grow_92f84_20 rfl (lv_at hl 2 rfl) ?_
  refine lv_iload_n F.1 F.2.1 dJx4a65c_grow_92f84_21 rfl (lv_at hl 1 rfl) ?_
  refine lv_iload_n F.1 F.2.1 dJx4a65c_grow_92f84_22 rfl (lv_at hl 2 rfl) ?_
  refine lv_isub (x := l1) (y := l2) F.1 F.2.1 dJx4a65c_grow_92f84_23 ?_
  refine lv_iload_n F.1 F.2.1 dJx4a65c_grow_92f84_24 rfl (lv_at hl 2 rfl) ?_
  refine lv_iconst (v := 1) F.1 F.2.1 dJx4a65c_grow_92f84_25 (by decide) ?_
  refine lv_ishr (x := l2) (y := 1) F.1 F.2.1 dJx4a65c_grow_92f84_26 ?_
  refine xk_J8_newLength_cabcc F C l2 (l1 - l2) (l2 >>> (1 &&& 31)) h ux_172 (Nat.le_of_ble_eq_true rfl) (Nat.le_of_ble_eq_true rfl) hl.1 (by simp [Value.category]) dJx4a65c_grow_92f84_27 (fun r2 σ1 H locs h C => ?_)
  refine lv_istore_n (lv' := [(3, .int r2), (0, .ref l0), (1, .int l1), (2, .int l2)]) F.1 F.2.1 dJx4a65c_grow_92f84_30 rfl hl (by decide) rfl (fun ls hl => ?_)
  refine lv_aload_n F.1 F.2.1 dJx4a65c_grow_92f84_31 rfl (lv_at hl 1 rfl) ?_
  refine lv_aload_n F.1 F.2.1 dJx4a65c_grow_92f84_32 rfl (lv_at hl 1 rfl) ?_
  obtain ⟨ht3, h⟩ := h
  refine xg_Jx4a65c_elementData F C ht3 ux_142 (fun _ h9 => h9) dJx4a65c_grow_92f84_33 ?_
  obtain ⟨a4, ea5, h⟩ := h
  refine xq_nn ea5 ?_
  refine lv_iload_n F.1 F.2.1 dJx4a65c_grow_92f84_36 rfl (lv_at hl 0 rfl) ?_
  refine xk_J7_copyOf_1904c F C a4 r2 h ux_173 (Nat.le_of_ble_eq_true rfl) (Nat.le_of_ble_eq_true rfl) hl.1 (by simp [Value.category]) dJx4a65c_grow_92f84_37 (fun b7 σ6 H locs h C => ?_)
  refine lv_dup_x1 F.1 F.2.1 dJx4a65c_grow_92f84_40 rfl rfl ?_
  obtain ⟨ht8, h⟩ := h
  refine xp_Jx4a65c_elementData (x := some b7) F C ht8 ux_142 (fun _ h9 => h9) dJx4a65c_grow_92f84_41 (fun H locs C => ?_)
  generalize eσ9 : xsr σ6 17 l0 (some b7) = σ9 at C ⊢
  replace h := h σ9 eσ9.symm
  have ht10 : xt σ9 l0 = 1 := by rw [← eσ9]; exact ht8
  exact kx_aret F C hr (Or.inr ⟨_, rfl⟩) hlocks h dJx4a65c_grow_92f84_44
set_option maxRecDepth 100000 in
set_option maxHeartbeats 4000000 in
theorem hx_Jx4a65c_grow_92f84 (l : Launch) (G : kx_G) (l0 : Nat) (l1 : Int32) (σ : kx_S) (Q : Nat → kx_S → Prop) (h : wJx4a65c_grow_92f84 l0 l1 σ Q) : kx_M l G yJx4a65c_grow_92f84 cJx4a65c_grow_92f84 4 (some (.array (.object "java/lang/Object"))) (3) (144) [.ref l0, .int l1] σ (kx_ra Q) := by
  refine kx_enter (by decide) rfl (Nat.le_of_ble_eq_true rfl) ?_
  intro p e s m below meth c ls F hr hlocks C hname hl
  have hl : lv_has ls 4 [(0, .ref l0), (1, .int l1)] := hl
  obtain ⟨H, eH⟩ : ∃ z9, z9 = s.heap := ⟨_, rfl⟩
  obtain ⟨locs, eL⟩ : ∃ z9 : List Loc, z9 = [] := ⟨_, rfl⟩
  rw [← eH, ← eL] at C
  rw [← eH, ← eL]
  obtain ⟨σ0, e0⟩ : ∃ z9, z9 = σ := ⟨_, rfl⟩
  have C : kx_X G (xc σ0) s H locs σ := by rw [e0]; exact C
  suffices hgo : kx_W p l e (3) (144) (xc σ0) s m ([.ref l0, .int l1] : List Value).toArray below meth c H locs σ (MQ below (kx_Q G σ0 (kx_ra Q)) ([.ref l0, .int l1] : List Value).toArray s (kx_N - xc σ0) (600 * (kx_N - xc σ0)) (kx_A G)) (F0 m 0 ls []) by rw [e0] at hgo; exact hgo
  clear e0
  refine lv_aload_n F.1 F.2.1 dJx4a65c_grow_92f84_0 rfl (lv_at hl 0 rfl) ?_
  obtain ⟨ht11, h⟩ := h
  refine xg_Jx4a65c_elementData F C ht11 ux_142 (fun _ h9 => h9) dJx4a65c_grow_92f84_1 ?_
  obtain ⟨a12, ea13, h⟩ := h
  refine xq_nn ea13 ?_
  by_cases c14 : a12 = xz σ
  · replace h := h.1 c14
    refine kx_alenz F C c14 dJx4a65c_grow_92f84_4 ?_
    refine lv_istore_n (lv' := [(2, .int 0), (0, .ref l0), (1, .int l1)]) F.1 F.2.1 dJx4a65c_grow_92f84_5 rfl hl (by decide) rfl (fun ls hl => ?_)
    refine lv_iload_n F.1 F.2.1 dJx4a65c_grow_92f84_6 rfl (lv_at hl 0 rfl) ?_
    refine lv_if_gt (tgt := 20) F.1 F.2.1 dJx4a65c_grow_92f84_7 (by decide) (fun c15 => ?_) (fun c15 => ?_)
    · replace h := h.1 c15
      exact tJx4a65c_grow_92f84_20 l G σ0 F hr hlocks Q l0 l1 0 σ H locs ls h C (lv_sub hl [1, 2, 0] rfl)
    · replace h := h.2 c15
      refine lv_aload_n F.1 F.2.1 dJx4a65c_grow_92f84_10 rfl (lv_at hl 1 rfl) ?_
      refine xg_Jx4a65c_elementData F C ht11 ux_142 (fun _ h9 => h9) dJx4a65c_grow_92f84_11 ?_
      obtain ⟨a16, ea17, h⟩ := h
      refine xq_nn ea17 ?_
      refine kx_getz F C dJx4a65c_grow_92f84_14 ?_
      refine lv_acmp_eq (rx := some a16) (ry := some (xz σ)) (tgt := 45) F.1 F.2.1 dJx4a65c_grow_92f84_17 (by decide) (fun c18 => ?_) (fun c18 => ?_)
      · replace h := h.1 c18
        refine lv_aload_n F.1 F.2.1 dJx4a65c_grow_92f84_45 rfl (lv_at hl 1 rfl) ?_
        refine lv_bipush (v := 10) F.1 F.2.1 dJx4a65c_grow_92f84_46 (by decide) ?_
        refine lv_iload_n F.1 F.2.1 dJx4a65c_grow_92f84_48 rfl (lv_at hl 2 rfl) ?_
        refine kx_max F C ux_174 (Nat.le_of_ble_eq_true rfl) (by simp [Value.category]) hl.1 dJx4a65c_grow_92f84_49 ?_
        refine lv_topi (fun v19 ev19 => ?_)
        replace h := h v19 ev19
        obtain ⟨hn21, hn22, hn23, h⟩ := h
        refine kx_newq F C ux_175 hn21 hn22 hn23 dJx4a65c_grow_92f84_52 (fun p20 H z24 z25 C => ?_)
        replace h := h p20 z24 (fun h9 => z25 (h9.trans (show xz σ = _ from C.2.1.1)))
        generalize eσ26 : xnewA σ p20 22 v19.toNatClampNeg = σ26 at C ⊢
        replace h := h σ26 eσ26.symm
        have ht27 : xt σ26 p20 = 22 := by rw [← eσ26]; exact va_up_self _ _ _
        refine lv_dup_x1 F.1 F.2.1 dJx4a65c_grow_92f84_55 rfl rfl ?_
        obtain ⟨ht28, h⟩ := h
        refine xp_Jx4a65c_elementData (x := some p20) F C ht28 ux_142 (fun _ h9 => h9) dJx4a65c_grow_92f84_56 (fun H locs C => ?_)
        generalize eσ29 : xsr σ26 17 l0 (some p20) = σ29 at C ⊢
        replace h := h σ29 eσ29.symm
        have ht30 : xt σ29 p20 = 22 := by rw [← eσ29]; exact ht27
        have ht31 : xt σ29 l0 = 1 := by rw [← eσ29]; exact ht28
        exact kx_aret F C hr (Or.inr ⟨_, rfl⟩) hlocks h dJx4a65c_grow_92f84_59
      · replace h := h.2 c18
        exact tJx4a65c_grow_92f84_20 l G σ0 F hr hlocks Q l0 l1 0 σ H locs ls h C (lv_sub hl [1, 2, 0] rfl)
  · replace h := h.2 c14
    obtain ⟨ht32, h⟩ := h
    refine kx_alen F C (Or.inr ht32) dJx4a65c_grow_92f84_4 ?_
    refine lv_topi (fun v33 ev33 => ?_)
    replace h := h v33 ev33
    refine lv_istore_n (lv' := [(2, .int v33), (0, .ref l0), (1, .int l1)]) F.1 F.2.1 dJx4a65c_grow_92f84_5 rfl hl (by decide) rfl (fun ls hl => ?_)
    refine lv_iload_n F.1 F.2.1 dJx4a65c_grow_92f84_6 rfl (lv_at hl 0 rfl) ?_
    refine lv_if_gt (tgt := 20) F.1 F.2.1 dJx4a65c_grow_92f84_7 (by decide) (fun c34 => ?_) (fun c34 => ?_)
    · replace h := h.1 c34
      exact tJx4a65c_grow_92f84_20 l G σ0 F hr hlocks Q l0 l1 v33 σ H locs ls h C (lv_sub hl [1, 2, 0] rfl)
    · replace h := h.2 c34
      refine lv_aload_n F.1 F.2.1 dJx4a65c_grow_92f84_10 rfl (lv_at hl 1 rfl) ?_
      refine xg_Jx4a65c_elementData F C ht11 ux_142 (fun _ h9 => h9) dJx4a65c_grow_92f84_11 ?_
      obtain ⟨a35, ea36, h⟩ := h
      refine xq_nn ea36 ?_
      refine kx_getz F C dJx4a65c_grow_92f84_14 ?_
      refine lv_acmp_eq (rx := some a35) (ry := some (xz σ)) (tgt := 45) F.1 F.2.1 dJx4a65c_grow_92f84_17 (by decide) (fun c37 => ?_) (fun c37 => ?_)
      · replace h := h.1 c37
        refine lv_aload_n F.1 F.2.1 dJx4a65c_grow_92f84_45 rfl (lv_at hl 1 rfl) ?_
        refine lv_bipush (v := 10) F.1 F.2.1 dJx4a65c_grow_92f84_46 (by decide) ?_
        refine lv_iload_n F.1 F.2.1 dJx4a65c_grow_92f84_48 rfl (lv_at hl 2 rfl) ?_
        refine kx_max F C ux_174 (Nat.le_of_ble_eq_true rfl) (by simp [Value.category]) hl.1 dJx4a65c_grow_92f84_49 ?_
        refine lv_topi (fun v38 ev38 => ?_)
        replace h := h v38 ev38
        obtain ⟨hn40, hn41, hn42, h⟩ := h
        refine kx_newq F C ux_175 hn40 hn41 hn42 dJx4a65c_grow_92f84_52 (fun p39 H z43 z44 C => ?_)
        replace h := h p39 z43 (fun h9 => z44 (h9.trans (show xz σ = _ from C.2.1.1)))
        generalize eσ45 : xnewA σ p39 22 v38.toNatClampNeg = σ45 at C ⊢
        replace h := h σ45 eσ45.symm
        have ht46 : xt σ45 p39 = 22 := by rw [← eσ45]; exact va_up_self _ _ _
        refine lv_dup_x1 F.1 F.2.1 dJx4a65c_grow_92f84_55 rfl rfl ?_
        obtain ⟨ht47, h⟩ := h
        refine xp_Jx4a65c_elementData (x := some p39) F C ht47 ux_142 (fun _ h9 => h9) dJx4a65c_grow_92f84_56 (fun H locs C => ?_)
        generalize eσ48 : xsr σ45 17 l0 (some p39) = σ48 at C ⊢
        replace h := h σ48 eσ48.symm
        have ht49 : xt σ48 p39 = 22 := by rw [← eσ48]; exact ht46
        have ht50 : xt σ48 l0 = 1 := by rw [← eσ48]; exact ht47
        exact kx_aret F C hr (Or.inr ⟨_, rfl⟩) hlocks h dJx4a65c_grow_92f84_59
      · replace h := h.2 c37
        exact tJx4a65c_grow_92f84_20 l G σ0 F hr hlocks Q l0 l1 v33 σ H locs ls h C (lv_sub hl [1, 2, 0] rfl)
section
variable {p : Program} {l : Launch} {e : Env} {fr lo c0 : Nat} {s : State} {m : MethodId} {args : Array Value} {below : List Frame} {meth : Method} {c : Code} {H : Heap} {locs : List Loc} {Q : State → Prop}
variable {cc : ByteArray} {pc nL index : Nat} {ls : Array Slot} {rest : List Value} {G : kx_G} {σ : kx_S} {own : String}
theorem xk_Jx4a65c_grow_92f84 {P : Nat → kx_S → Prop} (F : CallFix p m c cc nL s args kt_ own) (C : kx_X G c0 s H locs σ) (l0 : Nat) (l1 : Int32) (ha : xt σ l0 = 1) (h : wJx4a65c_grow_92f84 l0 l1 σ P) (hw : Cond.methodLink own index yJx4a65c_grow_92f84 ∈ kt_) (h1 : (3) + 1 ≤ fr) (h2 : 8 + (4 + 11) + (144) ≤ lo) (hsz : ls.size = nL) (hW : (rest.map fun v => v.category).sum ≤ 8) (hdg : decode cc pc = .ok (.invokevirtual index, 3)) (kk : ∀ (r : Nat) (u : kx_S) (H1 : Heap) (locs1 : List Loc), P r u → kx_X G c0 s H1 locs1 u → kx_W p l e fr lo c0 s m args below meth c H1 locs1 u Q (F0 m (pc + 3) ls (.ref r :: rest))) : kx_W p l e fr lo c0 s m args below meth c H locs σ Q (F0 m pc ls (.int l1 :: .ref l0 :: rest)) :=
  kx_cV (n := 1) (As := [.int l1]) (Cn := RJx4a65c) F C (hx_Jx4a65c_grow_92f84 l G l0 l1 σ P h) (kt_V hw ux_177 ux_178 ux_25 ux_176) (by decide +kernel) ⟨h1, h2⟩ (kx_recv C (by rw [ha]; decide) (kx_e1 ha) rfl) rfl hsz hW hdg (fun v u H1 locs1 hP9 C9 => by obtain ⟨r, hv, hp⟩ := hP9; subst hv; exact kk r u H1 locs1 hp C9)
end
theorem dJx4a65c_grow_d5877_0 : decode cJx4a65c_grow_d5877 0 = .ok (.aload_n 0, 1) := by decide +kernel
theorem dJx4a65c_grow_d5877_1 : decode cJx4a65c_grow_d5877 1 = .ok (.aload_n 0, 1) := by decide +kernel
theorem dJx4a65c_grow_d5877_2 : decode cJx4a65c_grow_d5877 2 = .ok (.getfield 48, 3) := by decide +kernel
theorem dJx4a65c_grow_d5877_5 : decode cJx4a65c_grow_d5877 5 = .ok (.iconst 1, 1) := by decide +kernel
theorem dJx4a65c_grow_d5877_6 : decode cJx4a65c_grow_d5877 6 = .ok (.iadd, 1) := by decide +kernel
theorem dJx4a65c_grow_d5877_7 : decode cJx4a65c_grow_d5877 7 = .ok (.invokevirtual 69, 3) := by decide +kernel
theorem dJx4a65c_grow_d5877_10 : decode cJx4a65c_grow_d5877 10 = .ok (.areturn, 1) := by decide +kernel
def wJx4a65c_grow_d5877 (l0 : Nat) (σ : kx_S) (Q : Nat → kx_S → Prop) : Prop := xt σ l0 = 1 ∧ wJx4a65c_grow_92f84 l0 ((xi σ 18 l0) + 1) σ (fun b3 σ2 => Q b3 σ2)
set_option maxRecDepth 100000 in
set_option maxHeartbeats 4000000 in
theorem hx_Jx4a65c_grow_d5877 (l : Launch) (G : kx_G) (l0 : Nat) (σ : kx_S) (Q : Nat → kx_S → Prop) (h : wJx4a65c_grow_d5877 l0 σ Q) : kx_M l G yJx4a65c_grow_d5877 cJx4a65c_grow_d5877 1 (some (.array (.object "java/lang/Object"))) (4) (167) [.ref l0] σ (kx_ra Q) := by
  refine kx_enter (by decide) rfl (Nat.le_of_ble_eq_true rfl) ?_
  intro p e s m below meth c ls F hr hlocks C hname hl
  have hl : lv_has ls 1 [(0, .ref l0)] := hl
  obtain ⟨H, eH⟩ : ∃ z9, z9 = s.heap := ⟨_, rfl⟩
  obtain ⟨locs, eL⟩ : ∃ z9 : List Loc, z9 = [] := ⟨_, rfl⟩
  rw [← eH, ← eL] at C
  rw [← eH, ← eL]
  obtain ⟨σ0, e0⟩ : ∃ z9, z9 = σ := ⟨_, rfl⟩
  have C : kx_X G (xc σ0) s H locs σ := by rw [e0]; exact C
  suffices hgo : kx_W p l e (4) (167) (xc σ0) s m ([.ref l0] : List Value).toArray below meth c H locs σ (MQ below (kx_Q G σ0 (kx_ra Q)) ([.ref l0] : List Value).toArray s (kx_N - xc σ0) (600 * (kx_N - xc σ0)) (kx_A G)) (F0 m 0 ls []) by rw [e0] at hgo; exact hgo
  clear e0
  refine lv_aload_n F.1 F.2.1 dJx4a65c_grow_d5877_0 rfl (lv_at hl 0 rfl) ?_
  refine lv_aload_n F.1 F.2.1 dJx4a65c_grow_d5877_1 rfl (lv_at hl 0 rfl) ?_
  obtain ⟨ht1, h⟩ := h
  refine xg_Jx4a65c_size F C ht1 ux_145 (fun _ h9 => h9) dJx4a65c_grow_d5877_2 ?_
  refine lv_iconst (v := 1) F.1 F.2.1 dJx4a65c_grow_d5877_5 (by decide) ?_
  refine lv_iadd (x := xi σ 18 l0) (y := 1) F.1 F.2.1 dJx4a65c_grow_d5877_6 ?_
  refine xk_Jx4a65c_grow_92f84 F C l0 ((xi σ 18 l0) + 1) ht1 h ux_179 (Nat.le_of_ble_eq_true rfl) (Nat.le_of_ble_eq_true rfl) hl.1 (by simp [Value.category]) dJx4a65c_grow_d5877_7 (fun b3 σ2 H locs h C => ?_)
  exact kx_aret F C hr (Or.inr ⟨_, rfl⟩) hlocks h dJx4a65c_grow_d5877_10
section
variable {p : Program} {l : Launch} {e : Env} {fr lo c0 : Nat} {s : State} {m : MethodId} {args : Array Value} {below : List Frame} {meth : Method} {c : Code} {H : Heap} {locs : List Loc} {Q : State → Prop}
variable {cc : ByteArray} {pc nL index : Nat} {ls : Array Slot} {rest : List Value} {G : kx_G} {σ : kx_S} {own : String}
theorem xk_Jx4a65c_grow_d5877 {P : Nat → kx_S → Prop} (F : CallFix p m c cc nL s args kt_ own) (C : kx_X G c0 s H locs σ) (l0 : Nat) (ha : xt σ l0 = 1) (h : wJx4a65c_grow_d5877 l0 σ P) (hw : Cond.methodLink own index yJx4a65c_grow_d5877 ∈ kt_) (h1 : (4) + 1 ≤ fr) (h2 : 8 + (1 + 11) + (167) ≤ lo) (hsz : ls.size = nL) (hW : (rest.map fun v => v.category).sum ≤ 8) (hdg : decode cc pc = .ok (.invokevirtual index, 3)) (kk : ∀ (r : Nat) (u : kx_S) (H1 : Heap) (locs1 : List Loc), P r u → kx_X G c0 s H1 locs1 u → kx_W p l e fr lo c0 s m args below meth c H1 locs1 u Q (F0 m (pc + 3) ls (.ref r :: rest))) : kx_W p l e fr lo c0 s m args below meth c H locs σ Q (F0 m pc ls (.ref l0 :: rest)) :=
  kx_cV (n := 0) (As := []) (Cn := RJx4a65c) F C (hx_Jx4a65c_grow_d5877 l G l0 σ P h) (kt_V hw ux_181 ux_182 ux_25 ux_180) (by decide +kernel) ⟨h1, h2⟩ (kx_recv C (by rw [ha]; decide) (kx_e1 ha) rfl) rfl hsz hW hdg (fun v u H1 locs1 hP9 C9 => by obtain ⟨r, hv, hp⟩ := hP9; subst hv; exact kk r u H1 locs1 hp C9)
end
theorem dJx4a65c_add_72be8_0 : decode cJx4a65c_add_72be8 0 = .ok (.iload_n 3, 1) := by decide +kernel
theorem dJx4a65c_add_72be8_1 : decode cJx4a65c_add_72be8 1 = .ok (.aload_n 2, 1) := by decide +kernel
theorem dJx4a65c_add_72be8_2 : decode cJx4a65c_add_72be8 2 = .ok (.arraylength, 1) := by decide +kernel
theorem dJx4a65c_add_72be8_3 : decode cJx4a65c_add_72be8 3 = .ok (.if_icmp .ne 8, 3) := by decide +kernel
theorem dJx4a65c_add_72be8_6 : decode cJx4a65c_add_72be8 6 = .ok (.aload_n 0, 1) := by decide +kernel
theorem dJx4a65c_add_72be8_7 : decode cJx4a65c_add_72be8 7 = .ok (.invokevirtual 129, 3) := by decide +kernel
theorem dJx4a65c_add_72be8_10 : decode cJx4a65c_add_72be8 10 = .ok (.astore_n 2, 1) := by decide +kernel
theorem dJx4a65c_add_72be8_11 : decode cJx4a65c_add_72be8 11 = .ok (.aload_n 2, 1) := by decide +kernel
theorem dJx4a65c_add_72be8_12 : decode cJx4a65c_add_72be8 12 = .ok (.iload_n 3, 1) := by decide +kernel
theorem dJx4a65c_add_72be8_13 : decode cJx4a65c_add_72be8 13 = .ok (.aload_n 1, 1) := by decide +kernel
theorem dJx4a65c_add_72be8_14 : decode cJx4a65c_add_72be8 14 = .ok (.aastore, 1) := by decide +kernel
theorem dJx4a65c_add_72be8_15 : decode cJx4a65c_add_72be8 15 = .ok (.aload_n 0, 1) := by decide +kernel
theorem dJx4a65c_add_72be8_16 : decode cJx4a65c_add_72be8 16 = .ok (.iload_n 3, 1) := by decide +kernel
theorem dJx4a65c_add_72be8_17 : decode cJx4a65c_add_72be8 17 = .ok (.iconst 1, 1) := by decide +kernel
theorem dJx4a65c_add_72be8_18 : decode cJx4a65c_add_72be8 18 = .ok (.iadd, 1) := by decide +kernel
theorem dJx4a65c_add_72be8_19 : decode cJx4a65c_add_72be8 19 = .ok (.putfield 48, 3) := by decide +kernel
theorem dJx4a65c_add_72be8_22 : decode cJx4a65c_add_72be8 22 = .ok (.return_, 1) := by decide +kernel
def wJx4a65c_add_72be8_11 (Q : kx_S → Prop) (l0 : Nat) (l1 : Nat) (l2 : Nat) (l3 : Int32) (σ : kx_S) : Prop := xt σ l2 = 22 ∧ vp_in l3 (xn σ l2) ∧ kx_el (xt σ l1) ∧ ∀ σ4, σ4 = xsar σ l2 l3.toNatClampNeg (some l1) → xt σ4 l0 = 1 ∧ ∀ σ7, σ7 = xsi σ4 18 l0 (l3 + 1) → Q σ7
def wJx4a65c_add_72be8 (l0 : Nat) (l1 : Nat) (l2 : Nat) (l3 : Int32) (σ : kx_S) (Q : kx_S → Prop) : Prop := ((l2 = xz σ → ((¬ l3 = 0 → wJx4a65c_add_72be8_11 Q l0 l1 l2 l3 σ) ∧
    (l3 = 0 → xt σ l0 = 1 ∧ wJx4a65c_grow_d5877 l0 σ (fun b13 σ12 => wJx4a65c_add_72be8_11 Q l0 l1 b13 l3 σ12)))) ∧
  (¬ (l2 = xz σ) → xt σ l2 = 22 ∧ ((¬ l3 = (nI (xn σ l2)) → wJx4a65c_add_72be8_11 Q l0 l1 l2 l3 σ) ∧
    (l3 = (nI (xn σ l2)) → xt σ l0 = 1 ∧ wJx4a65c_grow_d5877 l0 σ (fun b18 σ17 => wJx4a65c_add_72be8_11 Q l0 l1 b18 l3 σ17)))))
set_option maxRecDepth 100000 in
set_option maxHeartbeats 4000000 in
theorem tJx4a65c_add_72be8_11 (l : Launch) (G : kx_G) (σ0 : kx_S) {p : Program} {e : Env} {s : State} {m : MethodId} {args : Array Value} {below : List Frame} {meth : Method} {c : Code} (F : CallFix p m c cJx4a65c_add_72be8 4 s args kt_ RJx4a65c) (hr : meth.sig.returnType = none) (hlocks : meth.locks = false) (Q : kx_S → Prop) : ∀ (l0 : Nat) (l1 : Nat) (l2 : Nat) (l3 : Int32) (σ : kx_S) (H : Heap) (locs : List Loc) (ls : Array Slot), wJx4a65c_add_72be8_11 Q l0 l1 l2 l3 σ → kx_X G (xc σ0) s H locs σ → lv_has ls 4 [(0, .ref l0), (1, .ref l1), (2, .ref l2), (3, .int l3)] → kx_W p l e (5) (187) (xc σ0) s m args below meth c H locs σ (MQ below (kx_Q G σ0 (kx_rv Q)) args s (kx_N - xc σ0) (600 * (kx_N - xc σ0)) (kx_A G)) (F0 m 11 ls []) := by
  intro l0 l1 l2 l3 σ H locs ls h C hl
  refine lv_aload_n F.1 F.2.1 dJx4a65c_add_72be8_11 rfl (lv_at hl 2 rfl) ?_
  refine lv_iload_n F.1 F.2.1 dJx4a65c_add_72be8_12 rfl (lv_at hl 3 rfl) ?_
  refine lv_aload_n F.1 F.2.1 dJx4a65c_add_72be8_13 rfl (lv_at hl 1 rfl) ?_
  obtain ⟨ht1, h⟩ := h
  obtain ⟨hn2, h⟩ := h
  obtain ⟨he3, h⟩ := h
  refine kx_aast F C ht1 he3 hn2 dJx4a65c_add_72be8_14 (fun H locs C => ?_)
  generalize eσ4 : xsar σ l2 l3.toNatClampNeg (some l1) = σ4 at C ⊢
  replace h := h σ4 eσ4.symm
  have ht5 : xt σ4 l2 = 22 := by rw [← eσ4]; exact ht1
  refine lv_aload_n F.1 F.2.1 dJx4a65c_add_72be8_15 rfl (lv_at hl 0 rfl) ?_
  refine lv_iload_n F.1 F.2.1 dJx4a65c_add_72be8_16 rfl (lv_at hl 3 rfl) ?_
  refine lv_iconst (v := 1) F.1 F.2.1 dJx4a65c_add_72be8_17 (by decide) ?_
  refine lv_iadd (x := l3) (y := 1) F.1 F.2.1 dJx4a65c_add_72be8_18 ?_
  obtain ⟨ht6, h⟩ := h
  refine xp_Jx4a65c_size (x := l3 + 1) F C ht6 ux_145 (fun _ h9 => h9) dJx4a65c_add_72be8_19 (fun H locs C => ?_)
  generalize eσ7 : xsi σ4 18 l0 (l3 + 1) = σ7 at C ⊢
  replace h := h σ7 eσ7.symm
  have ht8 : xt σ7 l2 = 22 := by rw [← eσ7]; exact ht5
  have ht9 : xt σ7 l0 = 1 := by rw [← eσ7]; exact ht6
  exact kx_vret F C hr hlocks h dJx4a65c_add_72be8_22
set_option maxRecDepth 100000 in
set_option maxHeartbeats 4000000 in
theorem hx_Jx4a65c_add_72be8 (l : Launch) (G : kx_G) (l0 : Nat) (l1 : Nat) (l2 : Nat) (l3 : Int32) (σ : kx_S) (Q : kx_S → Prop) (h : wJx4a65c_add_72be8 l0 l1 l2 l3 σ Q) : kx_M l G yJx4a65c_add_72be8 cJx4a65c_add_72be8 4 none (5) (187) [.ref l0, .ref l1, .ref l2, .int l3] σ (kx_rv Q) := by
  refine kx_enter (by decide) rfl (Nat.le_of_ble_eq_true rfl) ?_
  intro p e s m below meth c ls F hr hlocks C hname hl
  have hl : lv_has ls 4 [(0, .ref l0), (1, .ref l1), (2, .ref l2), (3, .int l3)] := hl
  obtain ⟨H, eH⟩ : ∃ z9, z9 = s.heap := ⟨_, rfl⟩
  obtain ⟨locs, eL⟩ : ∃ z9 : List Loc, z9 = [] := ⟨_, rfl⟩
  rw [← eH, ← eL] at C
  rw [← eH, ← eL]
  obtain ⟨σ0, e0⟩ : ∃ z9, z9 = σ := ⟨_, rfl⟩
  have C : kx_X G (xc σ0) s H locs σ := by rw [e0]; exact C
  suffices hgo : kx_W p l e (5) (187) (xc σ0) s m ([.ref l0, .ref l1, .ref l2, .int l3] : List Value).toArray below meth c H locs σ (MQ below (kx_Q G σ0 (kx_rv Q)) ([.ref l0, .ref l1, .ref l2, .int l3] : List Value).toArray s (kx_N - xc σ0) (600 * (kx_N - xc σ0)) (kx_A G)) (F0 m 0 ls []) by rw [e0] at hgo; exact hgo
  clear e0
  refine lv_iload_n F.1 F.2.1 dJx4a65c_add_72be8_0 rfl (lv_at hl 3 rfl) ?_
  refine lv_aload_n F.1 F.2.1 dJx4a65c_add_72be8_1 rfl (lv_at hl 2 rfl) ?_
  by_cases c10 : l2 = xz σ
  · replace h := h.1 c10
    refine kx_alenz F C c10 dJx4a65c_add_72be8_2 ?_
    refine lv_icmp_ne (tgt := 11) F.1 F.2.1 dJx4a65c_add_72be8_3 (by decide) (fun c11 => ?_) (fun c11 => ?_)
    · replace h := h.1 c11
      exact tJx4a65c_add_72be8_11 l G σ0 F hr hlocks Q l0 l1 l2 l3 σ H locs ls h C (lv_sub hl [0, 1, 2, 3] rfl)
    · replace h := h.2 c11
      refine lv_aload_n F.1 F.2.1 dJx4a65c_add_72be8_6 rfl (lv_at hl 0 rfl) ?_
      obtain ⟨ht14, h⟩ := h
      refine xk_Jx4a65c_grow_d5877 F C l0 ht14 h ux_183 (Nat.le_of_ble_eq_true rfl) (Nat.le_of_ble_eq_true rfl) hl.1 (by simp [Value.category]) dJx4a65c_add_72be8_7 (fun b13 σ12 H locs h C => ?_)
      refine lv_astore_n (lv' := [(2, .ref b13), (0, .ref l0), (1, .ref l1), (3, .int l3)]) F.1 F.2.1 dJx4a65c_add_72be8_10 rfl hl (by decide) rfl (fun ls hl => ?_)
      exact tJx4a65c_add_72be8_11 l G σ0 F hr hlocks Q l0 l1 b13 l3 σ12 H locs ls h C (lv_sub hl [1, 2, 0, 3] rfl)
  · replace h := h.2 c10
    obtain ⟨ht15, h⟩ := h
    refine kx_alen F C (Or.inr ht15) dJx4a65c_add_72be8_2 ?_
    refine lv_icmp_ne (tgt := 11) F.1 F.2.1 dJx4a65c_add_72be8_3 (by decide) (fun c16 => ?_) (fun c16 => ?_)
    · replace h := h.1 c16
      exact tJx4a65c_add_72be8_11 l G σ0 F hr hlocks Q l0 l1 l2 l3 σ H locs ls h C (lv_sub hl [0, 1, 2, 3] rfl)
    · replace h := h.2 c16
      refine lv_aload_n F.1 F.2.1 dJx4a65c_add_72be8_6 rfl (lv_at hl 0 rfl) ?_
      obtain ⟨ht19, h⟩ := h
      refine xk_Jx4a65c_grow_d5877 F C l0 ht19 h ux_183 (Nat.le_of_ble_eq_true rfl) (Nat.le_of_ble_eq_true rfl) hl.1 (by simp [Value.category]) dJx4a65c_add_72be8_7 (fun b18 σ17 H locs h C => ?_)
      refine lv_astore_n (lv' := [(2, .ref b18), (0, .ref l0), (1, .ref l1), (3, .int l3)]) F.1 F.2.1 dJx4a65c_add_72be8_10 rfl hl (by decide) rfl (fun ls hl => ?_)
      exact tJx4a65c_add_72be8_11 l G σ0 F hr hlocks Q l0 l1 b18 l3 σ17 H locs ls h C (lv_sub hl [1, 2, 0, 3] rfl)
section
variable {p : Program} {l : Launch} {e : Env} {fr lo c0 : Nat} {s : State} {m : MethodId} {args : Array Value} {below : List Frame} {meth : Method} {c : Code} {H : Heap} {locs : List Loc} {Q : State → Prop}
variable {cc : ByteArray} {pc nL index : Nat} {ls : Array Slot} {rest : List Value} {G : kx_G} {σ : kx_S} {own : String}
theorem xk_Jx4a65c_add_72be8 {P : kx_S → Prop} (F : CallFix p m c cc nL s args kt_ own) (C : kx_X G c0 s H locs σ) (l0 : Nat) (l1 : Nat) (l2 : Nat) (l3 : Int32) (ha : xt σ l0 = 1) (h : wJx4a65c_add_72be8 l0 l1 l2 l3 σ P) (hw : Cond.methodLink own index yJx4a65c_add_72be8 ∈ kt_) (h1 : (5) + 1 ≤ fr) (h2 : 8 + (4 + 11) + (187) ≤ lo) (hsz : ls.size = nL) (hW : (rest.map fun v => v.category).sum ≤ 8) (hdg : decode cc pc = .ok (.invokevirtual index, 3)) (kk : ∀ (u : kx_S) (H1 : Heap) (locs1 : List Loc), P u → kx_X G c0 s H1 locs1 u → kx_W p l e fr lo c0 s m args below meth c H1 locs1 u Q (F0 m (pc + 3) ls rest)) : kx_W p l e fr lo c0 s m args below meth c H locs σ Q (F0 m pc ls (.int l3 :: .ref l2 :: .ref l1 :: .ref l0 :: rest)) :=
  kx_cV (n := 3) (As := [.ref l1, .ref l2, .int l3]) (Cn := RJx4a65c) F C (hx_Jx4a65c_add_72be8 l G l0 l1 l2 l3 σ P h) (kt_V hw ux_185 ux_186 ux_25 ux_184) (by decide +kernel) ⟨h1, h2⟩ (kx_recv C (by rw [ha]; decide) (kx_e1 ha) rfl) rfl hsz hW hdg (fun v u H1 locs1 hP9 C9 => by obtain ⟨hv, hp⟩ := hP9; subst hv; exact kk u H1 locs1 hp C9)
end
theorem dJx4a65c_add_9ea2d_0 : decode cJx4a65c_add_9ea2d 0 = .ok (.aload_n 0, 1) := by decide +kernel
theorem dJx4a65c_add_9ea2d_1 : decode cJx4a65c_add_9ea2d 1 = .ok (.dup, 1) := by decide +kernel
theorem dJx4a65c_add_9ea2d_2 : decode cJx4a65c_add_9ea2d 2 = .ok (.getfield 63, 3) := by decide +kernel
theorem dJx4a65c_add_9ea2d_5 : decode cJx4a65c_add_9ea2d 5 = .ok (.iconst 1, 1) := by decide +kernel
theorem dJx4a65c_add_9ea2d_6 : decode cJx4a65c_add_9ea2d 6 = .ok (.iadd, 1) := by decide +kernel
theorem dJx4a65c_add_9ea2d_7 : decode cJx4a65c_add_9ea2d 7 = .ok (.putfield 63, 3) := by decide +kernel
theorem dJx4a65c_add_9ea2d_10 : decode cJx4a65c_add_9ea2d 10 = .ok (.aload_n 0, 1) := by decide +kernel
theorem dJx4a65c_add_9ea2d_11 : decode cJx4a65c_add_9ea2d 11 = .ok (.aload_n 1, 1) := by decide +kernel
theorem dJx4a65c_add_9ea2d_12 : decode cJx4a65c_add_9ea2d 12 = .ok (.aload_n 0, 1) := by decide +kernel
theorem dJx4a65c_add_9ea2d_13 : decode cJx4a65c_add_9ea2d 13 = .ok (.getfield 9, 3) := by decide +kernel
theorem dJx4a65c_add_9ea2d_16 : decode cJx4a65c_add_9ea2d 16 = .ok (.aload_n 0, 1) := by decide +kernel
theorem dJx4a65c_add_9ea2d_17 : decode cJx4a65c_add_9ea2d 17 = .ok (.getfield 48, 3) := by decide +kernel
theorem dJx4a65c_add_9ea2d_20 : decode cJx4a65c_add_9ea2d 20 = .ok (.invokevirtual 131, 3) := by decide +kernel
theorem dJx4a65c_add_9ea2d_23 : decode cJx4a65c_add_9ea2d 23 = .ok (.iconst 1, 1) := by decide +kernel
theorem dJx4a65c_add_9ea2d_24 : decode cJx4a65c_add_9ea2d 24 = .ok (.ireturn, 1) := by decide +kernel
def wJx4a65c_add_9ea2d (l0 : Nat) (l1 : Nat) (σ : kx_S) (Q : Int32 → kx_S → Prop) : Prop := xt σ l0 = 1 ∧ ∀ σ2, σ2 = xsi σ 16 l0 ((xi σ 16 l0) + 1) → ∃ a4, xr σ2 17 l0 = some a4 ∧ wJx4a65c_add_72be8 l0 l1 a4 (xi σ2 18 l0) σ2 (fun σ6 => Q 1 σ6)
set_option maxRecDepth 100000 in
set_option maxHeartbeats 4000000 in
theorem hx_Jx4a65c_add_9ea2d (l : Launch) (G : kx_G) (l0 : Nat) (l1 : Nat) (σ : kx_S) (Q : Int32 → kx_S → Prop) (h : wJx4a65c_add_9ea2d l0 l1 σ Q) : kx_M l G yJx4a65c_add_9ea2d cJx4a65c_add_9ea2d 2 (some .boolean) (6) (210) [.ref l0, .ref l1] σ (kx_ri Q) := by
  refine kx_enter (by decide) rfl (Nat.le_of_ble_eq_true rfl) ?_
  intro p e s m below meth c ls F hr hlocks C hname hl
  have hl : lv_has ls 2 [(0, .ref l0), (1, .ref l1)] := hl
  obtain ⟨H, eH⟩ : ∃ z9, z9 = s.heap := ⟨_, rfl⟩
  obtain ⟨locs, eL⟩ : ∃ z9 : List Loc, z9 = [] := ⟨_, rfl⟩
  rw [← eH, ← eL] at C
  rw [← eH, ← eL]
  obtain ⟨σ0, e0⟩ : ∃ z9, z9 = σ := ⟨_, rfl⟩
  have C : kx_X G (xc σ0) s H locs σ := by rw [e0]; exact C
  suffices hgo : kx_W p l e (6) (210) (xc σ0) s m ([.ref l0, .ref l1] : List Value).toArray below meth c H locs σ (MQ below (kx_Q G σ0 (kx_ri Q)) ([.ref l0, .ref l1] : List Value).toArray s (kx_N - xc σ0) (600 * (kx_N - xc σ0)) (kx_A G)) (F0 m 0 ls []) by rw [e0] at hgo; exact hgo
  clear e0
  refine lv_aload_n F.1 F.2.1 dJx4a65c_add_9ea2d_0 rfl (lv_at hl 0 rfl) ?_
  refine lv_dup F.1 F.2.1 dJx4a65c_add_9ea2d_1 rfl ?_
  obtain ⟨ht1, h⟩ := h
  refine xg_Jx4a65c_modCount F C ht1 ux_187 (fun x9 ho9 => u_same (F.2.2.2.2 _ ux_188) x9 ho9) dJx4a65c_add_9ea2d_2 ?_
  refine lv_iconst (v := 1) F.1 F.2.1 dJx4a65c_add_9ea2d_5 (by decide) ?_
  refine lv_iadd (x := xi σ 16 l0) (y := 1) F.1 F.2.1 dJx4a65c_add_9ea2d_6 ?_
  refine xp_Jx4a65c_modCount (x := (xi σ 16 l0) + 1) F C ht1 ux_187 (fun x9 ho9 => u_same (F.2.2.2.2 _ ux_188) x9 ho9) dJx4a65c_add_9ea2d_7 (fun H locs C => ?_)
  generalize eσ2 : xsi σ 16 l0 ((xi σ 16 l0) + 1) = σ2 at C ⊢
  replace h := h σ2 eσ2.symm
  have ht3 : xt σ2 l0 = 1 := by rw [← eσ2]; exact ht1
  refine lv_aload_n F.1 F.2.1 dJx4a65c_add_9ea2d_10 rfl (lv_at hl 0 rfl) ?_
  refine lv_aload_n F.1 F.2.1 dJx4a65c_add_9ea2d_11 rfl (lv_at hl 1 rfl) ?_
  refine lv_aload_n F.1 F.2.1 dJx4a65c_add_9ea2d_12 rfl (lv_at hl 0 rfl) ?_
  refine xg_Jx4a65c_elementData F C ht3 ux_142 (fun _ h9 => h9) dJx4a65c_add_9ea2d_13 ?_
  obtain ⟨a4, ea5, h⟩ := h
  refine xq_nn ea5 ?_
  refine lv_aload_n F.1 F.2.1 dJx4a65c_add_9ea2d_16 rfl (lv_at hl 0 rfl) ?_
  refine xg_Jx4a65c_size F C ht3 ux_145 (fun _ h9 => h9) dJx4a65c_add_9ea2d_17 ?_
  refine xk_Jx4a65c_add_72be8 F C l0 l1 a4 (xi σ2 18 l0) ht3 h ux_189 (Nat.le_of_ble_eq_true rfl) (Nat.le_of_ble_eq_true rfl) hl.1 (by simp [Value.category]) dJx4a65c_add_9ea2d_20 (fun σ6 H locs h C => ?_)
  refine lv_iconst (v := 1) F.1 F.2.1 dJx4a65c_add_9ea2d_23 (by decide) ?_
  exact kx_zret F C hr hlocks rfl h dJx4a65c_add_9ea2d_24
section
variable {p : Program} {l : Launch} {e : Env} {fr lo c0 : Nat} {s : State} {m : MethodId} {args : Array Value} {below : List Frame} {meth : Method} {c : Code} {H : Heap} {locs : List Loc} {Q : State → Prop}
variable {cc : ByteArray} {pc nL index : Nat} {ls : Array Slot} {rest : List Value} {G : kx_G} {σ : kx_S} {own : String}
theorem xk_Jx4a65c_add_9ea2d {P : Int32 → kx_S → Prop} (F : CallFix p m c cc nL s args kt_ own) (C : kx_X G c0 s H locs σ) (l0 : Nat) (l1 : Nat) (ha : xt σ l0 = 1) (h : wJx4a65c_add_9ea2d l0 l1 σ P) (hw : Cond.methodLink own index pz_ladd ∈ kt_) (h1 : (6) + 1 ≤ fr) (h2 : 8 + (2 + 11) + (210) ≤ lo) {count : Nat} (hsz : ls.size = nL) (hW : (rest.map fun v => v.category).sum ≤ 8) (hdg : decode cc pc = .ok (.invokeinterface index count, 5)) (kk : ∀ (r : Int32) (u : kx_S) (H1 : Heap) (locs1 : List Loc), P r u → kx_X G c0 s H1 locs1 u → kx_W p l e fr lo c0 s m args below meth c H1 locs1 u Q (F0 m (pc + 5) ls (.int r :: rest))) : kx_W p l e fr lo c0 s m args below meth c H locs σ Q (F0 m pc ls (.ref l1 :: .ref l0 :: rest)) :=
  kx_cF (n := 1) (As := [.ref l1]) F C ha (hx_Jx4a65c_add_9ea2d l G l0 l1 σ P h) hw ux_191 ux_192 ux_25 ux_190 C.2.2.1.2.2.2.1.2.2.1.2.1 (by decide +kernel) ⟨h1, h2⟩ rfl hsz hW hdg (fun v u H1 locs1 hP9 C9 => by obtain ⟨r, hv, hp⟩ := hP9; subst hv; exact kk r u H1 locs1 hp C9)
end
theorem dJx4a65c_fastRemove_b59b0_0 : decode cJx4a65c_fastRemove_b59b0 0 = .ok (.aload_n 0, 1) := by decide +kernel
theorem dJx4a65c_fastRemove_b59b0_1 : decode cJx4a65c_fastRemove_b59b0 1 = .ok (.dup, 1) := by decide +kernel
theorem dJx4a65c_fastRemove_b59b0_2 : decode cJx4a65c_fastRemove_b59b0 2 = .ok (.getfield 63, 3) := by decide +kernel
theorem dJx4a65c_fastRemove_b59b0_5 : decode cJx4a65c_fastRemove_b59b0 5 = .ok (.iconst 1, 1) := by decide +kernel
theorem dJx4a65c_fastRemove_b59b0_6 : decode cJx4a65c_fastRemove_b59b0 6 = .ok (.iadd, 1) := by decide +kernel
theorem dJx4a65c_fastRemove_b59b0_7 : decode cJx4a65c_fastRemove_b59b0 7 = .ok (.putfield 63, 3) := by decide +kernel
theorem dJx4a65c_fastRemove_b59b0_10 : decode cJx4a65c_fastRemove_b59b0 10 = .ok (.aload_n 0, 1) := by decide +kernel
theorem dJx4a65c_fastRemove_b59b0_11 : decode cJx4a65c_fastRemove_b59b0 11 = .ok (.getfield 48, 3) := by decide +kernel
theorem dJx4a65c_fastRemove_b59b0_14 : decode cJx4a65c_fastRemove_b59b0 14 = .ok (.iconst 1, 1) := by decide +kernel
theorem dJx4a65c_fastRemove_b59b0_15 : decode cJx4a65c_fastRemove_b59b0 15 = .ok (.isub, 1) := by decide +kernel
theorem dJx4a65c_fastRemove_b59b0_16 : decode cJx4a65c_fastRemove_b59b0 16 = .ok (.dup, 1) := by decide +kernel
theorem dJx4a65c_fastRemove_b59b0_17 : decode cJx4a65c_fastRemove_b59b0 17 = .ok (.istore_n 3, 1) := by decide +kernel
theorem dJx4a65c_fastRemove_b59b0_18 : decode cJx4a65c_fastRemove_b59b0 18 = .ok (.iload_n 2, 1) := by decide +kernel
theorem dJx4a65c_fastRemove_b59b0_19 : decode cJx4a65c_fastRemove_b59b0 19 = .ok (.if_icmp .le 15, 3) := by decide +kernel
theorem dJx4a65c_fastRemove_b59b0_22 : decode cJx4a65c_fastRemove_b59b0 22 = .ok (.aload_n 1, 1) := by decide +kernel
theorem dJx4a65c_fastRemove_b59b0_23 : decode cJx4a65c_fastRemove_b59b0 23 = .ok (.iload_n 2, 1) := by decide +kernel
theorem dJx4a65c_fastRemove_b59b0_24 : decode cJx4a65c_fastRemove_b59b0 24 = .ok (.iconst 1, 1) := by decide +kernel
theorem dJx4a65c_fastRemove_b59b0_25 : decode cJx4a65c_fastRemove_b59b0 25 = .ok (.iadd, 1) := by decide +kernel
theorem dJx4a65c_fastRemove_b59b0_26 : decode cJx4a65c_fastRemove_b59b0 26 = .ok (.aload_n 1, 1) := by decide +kernel
theorem dJx4a65c_fastRemove_b59b0_27 : decode cJx4a65c_fastRemove_b59b0 27 = .ok (.iload_n 2, 1) := by decide +kernel
theorem dJx4a65c_fastRemove_b59b0_28 : decode cJx4a65c_fastRemove_b59b0 28 = .ok (.iload_n 3, 1) := by decide +kernel
theorem dJx4a65c_fastRemove_b59b0_29 : decode cJx4a65c_fastRemove_b59b0 29 = .ok (.iload_n 2, 1) := by decide +kernel
theorem dJx4a65c_fastRemove_b59b0_30 : decode cJx4a65c_fastRemove_b59b0 30 = .ok (.isub, 1) := by decide +kernel
theorem dJx4a65c_fastRemove_b59b0_31 : decode cJx4a65c_fastRemove_b59b0 31 = .ok (.invokestatic 112, 3) := by decide +kernel
theorem dJx4a65c_fastRemove_b59b0_34 : decode cJx4a65c_fastRemove_b59b0 34 = .ok (.aload_n 1, 1) := by decide +kernel
theorem dJx4a65c_fastRemove_b59b0_35 : decode cJx4a65c_fastRemove_b59b0 35 = .ok (.aload_n 0, 1) := by decide +kernel
theorem dJx4a65c_fastRemove_b59b0_36 : decode cJx4a65c_fastRemove_b59b0 36 = .ok (.iload_n 3, 1) := by decide +kernel
theorem dJx4a65c_fastRemove_b59b0_37 : decode cJx4a65c_fastRemove_b59b0 37 = .ok (.dup_x1, 1) := by decide +kernel
theorem dJx4a65c_fastRemove_b59b0_38 : decode cJx4a65c_fastRemove_b59b0 38 = .ok (.putfield 48, 3) := by decide +kernel
theorem dJx4a65c_fastRemove_b59b0_41 : decode cJx4a65c_fastRemove_b59b0 41 = .ok (.aconst_null, 1) := by decide +kernel
theorem dJx4a65c_fastRemove_b59b0_42 : decode cJx4a65c_fastRemove_b59b0 42 = .ok (.aastore, 1) := by decide +kernel
theorem dJx4a65c_fastRemove_b59b0_43 : decode cJx4a65c_fastRemove_b59b0 43 = .ok (.return_, 1) := by decide +kernel
def wJx4a65c_fastRemove_b59b0_34 (Q : kx_S → Prop) (l0 : Nat) (l1 : Nat) (l3 : Int32) (σ : kx_S) : Prop := xt σ l0 = 1 ∧ ∀ σ2, σ2 = xsi σ 18 l0 l3 → xt σ2 l1 = 22 ∧ vp_in l3 (xn σ2 l1) ∧ ∀ σ6, σ6 = xsar σ2 l1 l3.toNatClampNeg none → Q σ6
def wJx4a65c_fastRemove_b59b0 (l0 : Nat) (l1 : Nat) (l2 : Int32) (σ : kx_S) (Q : kx_S → Prop) : Prop := xt σ l0 = 1 ∧ ∀ σ10, σ10 = xsi σ 16 l0 ((xi σ 16 l0) + 1) → ∀ v12, v12 = (xi σ10 18 l0) - 1 → ((((xi σ10 18 l0) - 1) ≤ l2 → wJx4a65c_fastRemove_b59b0_34 Q l0 l1 v12 σ10) ∧
  (¬ (((xi σ10 18 l0) - 1) ≤ l2) → xt σ10 l1 = 22 ∧ ¬ (l2 + 1) < 0 ∧ ¬ l2 < 0 ∧ ¬ (v12 - l2) < 0 ∧ (l2 + 1).toNatClampNeg + (v12 - l2).toNatClampNeg ≤ xn σ10 l1 ∧ l2.toNatClampNeg + (v12 - l2).toNatClampNeg ≤ xn σ10 l1 ∧ (∀ i : Nat, i < (v12 - l2).toNatClampNeg → ∀ y : Nat, xar σ10 l1 ((l2 + 1).toNatClampNeg + i) = some y → kx_el (xt σ10 y)) ∧ ∀ σ21, σ21 = xsAR σ10 l1 (va_cpy (xar σ10 l1) (xar σ10 l1) (l2 + 1).toNatClampNeg l2.toNatClampNeg (v12 - l2).toNatClampNeg) → wJx4a65c_fastRemove_b59b0_34 Q l0 l1 v12 σ21))
set_option maxRecDepth 100000 in
set_option maxHeartbeats 4000000 in
theorem tJx4a65c_fastRemove_b59b0_34 (l : Launch) (G : kx_G) (σ0 : kx_S) {p : Program} {e : Env} {s : State} {m : MethodId} {args : Array Value} {below : List Frame} {meth : Method} {c : Code} (F : CallFix p m c cJx4a65c_fastRemove_b59b0 4 s args kt_ RJx4a65c) (hr : meth.sig.returnType = none) (hlocks : meth.locks = false) (Q : kx_S → Prop) : ∀ (l0 : Nat) (l1 : Nat) (l3 : Int32) (σ : kx_S) (H : Heap) (locs : List Loc) (ls : Array Slot), wJx4a65c_fastRemove_b59b0_34 Q l0 l1 l3 σ → kx_X G (xc σ0) s H locs σ → lv_has ls 4 [(0, .ref l0), (1, .ref l1), (3, .int l3)] → kx_W p l e (1) (100) (xc σ0) s m args below meth c H locs σ (MQ below (kx_Q G σ0 (kx_rv Q)) args s (kx_N - xc σ0) (600 * (kx_N - xc σ0)) (kx_A G)) (F0 m 34 ls []) := by
  intro l0 l1 l3 σ H locs ls h C hl
  refine lv_aload_n F.1 F.2.1 dJx4a65c_fastRemove_b59b0_34 rfl (lv_at hl 1 rfl) ?_
  refine lv_aload_n F.1 F.2.1 dJx4a65c_fastRemove_b59b0_35 rfl (lv_at hl 0 rfl) ?_
  refine lv_iload_n F.1 F.2.1 dJx4a65c_fastRemove_b59b0_36 rfl (lv_at hl 2 rfl) ?_
  refine lv_dup_x1 F.1 F.2.1 dJx4a65c_fastRemove_b59b0_37 rfl rfl ?_
  obtain ⟨ht1, h⟩ := h
  refine xp_Jx4a65c_size (x := l3) F C ht1 ux_145 (fun _ h9 => h9) dJx4a65c_fastRemove_b59b0_38 (fun H locs C => ?_)
  generalize eσ2 : xsi σ 18 l0 l3 = σ2 at C ⊢
  replace h := h σ2 eσ2.symm
  have ht3 : xt σ2 l0 = 1 := by rw [← eσ2]; exact ht1
  refine lv_null F.1 F.2.1 dJx4a65c_fastRemove_b59b0_41 ?_
  obtain ⟨ht4, h⟩ := h
  obtain ⟨hn5, h⟩ := h
  refine kx_aastN F C ht4 hn5 dJx4a65c_fastRemove_b59b0_42 (fun H locs C => ?_)
  generalize eσ6 : xsar σ2 l1 l3.toNatClampNeg none = σ6 at C ⊢
  replace h := h σ6 eσ6.symm
  have ht7 : xt σ6 l0 = 1 := by rw [← eσ6]; exact ht3
  have ht8 : xt σ6 l1 = 22 := by rw [← eσ6]; exact ht4
  exact kx_vret F C hr hlocks h dJx4a65c_fastRemove_b59b0_43
set_option maxRecDepth 100000 in
set_option maxHeartbeats 4000000 in
theorem hx_Jx4a65c_fastRemove_b59b0 (l : Launch) (G : kx_G) (l0 : Nat) (l1 : Nat) (l2 : Int32) (σ : kx_S) (Q : kx_S → Prop) (h : wJx4a65c_fastRemove_b59b0 l0 l1 l2 σ Q) : kx_M l G yJx4a65c_fastRemove_b59b0 cJx4a65c_fastRemove_b59b0 4 none (1) (100) [.ref l0, .ref l1, .int l2] σ (kx_rv Q) := by
  refine kx_enter (by decide) rfl (Nat.le_of_ble_eq_true rfl) ?_
  intro p e s m below meth c ls F hr hlocks C hname hl
  have hl : lv_has ls 4 [(0, .ref l0), (1, .ref l1), (2, .int l2)] := hl
  obtain ⟨H, eH⟩ : ∃ z9, z9 = s.heap := ⟨_, rfl⟩
  obtain ⟨locs, eL⟩ : ∃ z9 : List Loc, z9 = [] := ⟨_, rfl⟩
  rw [← eH, ← eL] at C
  rw [← eH, ← eL]
  obtain ⟨σ0, e0⟩ : ∃ z9, z9 = σ := ⟨_, rfl⟩
  have C : kx_X G (xc σ0) s H locs σ := by rw [e0]; exact C
  suffices hgo : kx_W p l e (1) (100) (xc σ0) s m ([.ref l0, .ref l1, .int l2] : List Value).toArray below meth c H locs σ (MQ below (kx_Q G σ0 (kx_rv Q)) ([.ref l0, .ref l1, .int l2] : List Value).toArray s (kx_N - xc σ0) (600 * (kx_N - xc σ0)) (kx_A G)) (F0 m 0 ls []) by rw [e0] at hgo; exact hgo
  clear e0
  refine lv_aload_n F.1 F.2.1 dJx4a65c_fastRemove_b59b0_0 rfl (lv_at hl 0 rfl) ?_
  refine lv_dup F.1 F.2.1 dJx4a65c_fastRemove_b59b0_1 rfl ?_
  obtain ⟨ht9, h⟩ := h
  refine xg_Jx4a65c_modCount F C ht9 ux_187 (fun x9 ho9 => u_same (F.2.2.2.2 _ ux_188) x9 ho9) dJx4a65c_fastRemove_b59b0_2 ?_
  refine lv_iconst (v := 1) F.1 F.2.1 dJx4a65c_fastRemove_b59b0_5 (by decide) ?_
  refine lv_iadd (x := xi σ 16 l0) (y := 1) F.1 F.2.1 dJx4a65c_fastRemove_b59b0_6 ?_
  refine xp_Jx4a65c_modCount (x := (xi σ 16 l0) + 1) F C ht9 ux_187 (fun x9 ho9 => u_same (F.2.2.2.2 _ ux_188) x9 ho9) dJx4a65c_fastRemove_b59b0_7 (fun H locs C => ?_)
  generalize eσ10 : xsi σ 16 l0 ((xi σ 16 l0) + 1) = σ10 at C ⊢
  replace h := h σ10 eσ10.symm
  have ht11 : xt σ10 l0 = 1 := by rw [← eσ10]; exact ht9
  refine lv_aload_n F.1 F.2.1 dJx4a65c_fastRemove_b59b0_10 rfl (lv_at hl 0 rfl) ?_
  refine xg_Jx4a65c_size F C ht11 ux_145 (fun _ h9 => h9) dJx4a65c_fastRemove_b59b0_11 ?_
  refine lv_iconst (v := 1) F.1 F.2.1 dJx4a65c_fastRemove_b59b0_14 (by decide) ?_
  refine lv_isub (x := xi σ10 18 l0) (y := 1) F.1 F.2.1 dJx4a65c_fastRemove_b59b0_15 ?_
  refine lv_dup F.1 F.2.1 dJx4a65c_fastRemove_b59b0_16 rfl ?_
  refine lv_topi (fun v12 ev12 => ?_)
  replace h := h v12 ev12
  refine lv_istore_n (lv' := [(3, .int v12), (0, .ref l0), (1, .ref l1), (2, .int l2)]) F.1 F.2.1 dJx4a65c_fastRemove_b59b0_17 rfl hl (by decide) rfl (fun ls hl => ?_)
  refine lv_iload_n F.1 F.2.1 dJx4a65c_fastRemove_b59b0_18 rfl (lv_at hl 3 rfl) ?_
  refine lv_icmp_le (tgt := 34) F.1 F.2.1 dJx4a65c_fastRemove_b59b0_19 (by decide) (fun c13 => ?_) (fun c13 => ?_)
  · replace h := h.1 c13
    exact tJx4a65c_fastRemove_b59b0_34 l G σ0 F hr hlocks Q l0 l1 v12 σ10 H locs ls h C (lv_sub hl [1, 2, 0] rfl)
  · replace h := h.2 c13
    refine lv_aload_n F.1 F.2.1 dJx4a65c_fastRemove_b59b0_22 rfl (lv_at hl 2 rfl) ?_
    refine lv_iload_n F.1 F.2.1 dJx4a65c_fastRemove_b59b0_23 rfl (lv_at hl 3 rfl) ?_
    refine lv_iconst (v := 1) F.1 F.2.1 dJx4a65c_fastRemove_b59b0_24 (by decide) ?_
    refine lv_iadd (x := l2) (y := 1) F.1 F.2.1 dJx4a65c_fastRemove_b59b0_25 ?_
    refine lv_aload_n F.1 F.2.1 dJx4a65c_fastRemove_b59b0_26 rfl (lv_at hl 2 rfl) ?_
    refine lv_iload_n F.1 F.2.1 dJx4a65c_fastRemove_b59b0_27 rfl (lv_at hl 3 rfl) ?_
    refine lv_iload_n F.1 F.2.1 dJx4a65c_fastRemove_b59b0_28 rfl (lv_at hl 0 rfl) ?_
    refine lv_iload_n F.1 F.2.1 dJx4a65c_fastRemove_b59b0_29 rfl (lv_at hl 3 rfl) ?_
    refine lv_isub (x := v12) (y := l2) F.1 F.2.1 dJx4a65c_fastRemove_b59b0_30 ?_
    obtain ⟨ht14, h⟩ := h
    obtain ⟨hn15, hn16, hn17, hn18, hn19, hn20, h⟩ := h
    refine kx_copyq F C ux_193 ht14 ht14 hn15 hn16 hn17 hn18 hn19 hn20 (Nat.le_of_ble_eq_true rfl) (by simp [Value.category]) hl.1 dJx4a65c_fastRemove_b59b0_31 (fun H locs C => ?_)
    generalize eσ21 : xsAR σ10 l1 (va_cpy (xar σ10 l1) (xar σ10 l1) (l2 + 1).toNatClampNeg l2.toNatClampNeg (v12 - l2).toNatClampNeg) = σ21 at C ⊢
    replace h := h σ21 eσ21.symm
    have ht22 : xt σ21 l0 = 1 := by rw [← eσ21]; exact ht11
    have ht23 : xt σ21 l1 = 22 := by rw [← eσ21]; exact ht14
    exact tJx4a65c_fastRemove_b59b0_34 l G σ0 F hr hlocks Q l0 l1 v12 σ21 H locs ls h C (lv_sub hl [1, 2, 0] rfl)
section
variable {p : Program} {l : Launch} {e : Env} {fr lo c0 : Nat} {s : State} {m : MethodId} {args : Array Value} {below : List Frame} {meth : Method} {c : Code} {H : Heap} {locs : List Loc} {Q : State → Prop}
variable {cc : ByteArray} {pc nL index : Nat} {ls : Array Slot} {rest : List Value} {G : kx_G} {σ : kx_S} {own : String}
theorem xk_Jx4a65c_fastRemove_b59b0 {P : kx_S → Prop} (F : CallFix p m c cc nL s args kt_ own) (C : kx_X G c0 s H locs σ) (l0 : Nat) (l1 : Nat) (l2 : Int32) (ha : xt σ l0 = 1) (h : wJx4a65c_fastRemove_b59b0 l0 l1 l2 σ P) (hw : Cond.methodLink own index yJx4a65c_fastRemove_b59b0 ∈ kt_) (h1 : (1) + 1 ≤ fr) (h2 : 8 + (4 + 11) + (100) ≤ lo) (hsz : ls.size = nL) (hW : (rest.map fun v => v.category).sum ≤ 8) (hdg : decode cc pc = .ok (.invokevirtual index, 3)) (kk : ∀ (u : kx_S) (H1 : Heap) (locs1 : List Loc), P u → kx_X G c0 s H1 locs1 u → kx_W p l e fr lo c0 s m args below meth c H1 locs1 u Q (F0 m (pc + 3) ls rest)) : kx_W p l e fr lo c0 s m args below meth c H locs σ Q (F0 m pc ls (.int l2 :: .ref l1 :: .ref l0 :: rest)) :=
  kx_cV (n := 2) (As := [.ref l1, .int l2]) (Cn := RJx4a65c) F C (hx_Jx4a65c_fastRemove_b59b0 l G l0 l1 l2 σ P h) (kt_V hw ux_195 ux_196 ux_25 ux_194) (by decide +kernel) ⟨h1, h2⟩ (kx_recv C (by rw [ha]; decide) (kx_e1 ha) rfl) rfl hsz hW hdg (fun v u H1 locs1 hP9 C9 => by obtain ⟨hv, hp⟩ := hP9; subst hv; exact kk u H1 locs1 hp C9)
end
theorem dJx4a65c_remove_915e3_0 : decode cJx4a65c_remove_915e3 0 = .ok (.iload_n 1, 1) := by decide +kernel
theorem dJx4a65c_remove_915e3_1 : decode cJx4a65c_remove_915e3 1 = .ok (.aload_n 0, 1) := by decide +kernel
theorem dJx4a65c_remove_915e3_2 : decode cJx4a65c_remove_915e3 2 = .ok (.getfield 48, 3) := by decide +kernel
theorem dJx4a65c_remove_915e3_5 : decode cJx4a65c_remove_915e3 5 = .ok (.invokestatic 118, 3) := by decide +kernel
theorem dJx4a65c_remove_915e3_8 : decode cJx4a65c_remove_915e3 8 = .ok (.pop, 1) := by decide +kernel
theorem dJx4a65c_remove_915e3_9 : decode cJx4a65c_remove_915e3 9 = .ok (.aload_n 0, 1) := by decide +kernel
theorem dJx4a65c_remove_915e3_10 : decode cJx4a65c_remove_915e3 10 = .ok (.getfield 9, 3) := by decide +kernel
theorem dJx4a65c_remove_915e3_13 : decode cJx4a65c_remove_915e3 13 = .ok (.astore_n 2, 1) := by decide +kernel
theorem dJx4a65c_remove_915e3_14 : decode cJx4a65c_remove_915e3 14 = .ok (.aload_n 2, 1) := by decide +kernel
theorem dJx4a65c_remove_915e3_15 : decode cJx4a65c_remove_915e3 15 = .ok (.iload_n 1, 1) := by decide +kernel
theorem dJx4a65c_remove_915e3_16 : decode cJx4a65c_remove_915e3 16 = .ok (.aaload, 1) := by decide +kernel
theorem dJx4a65c_remove_915e3_17 : decode cJx4a65c_remove_915e3 17 = .ok (.astore_n 3, 1) := by decide +kernel
theorem dJx4a65c_remove_915e3_18 : decode cJx4a65c_remove_915e3 18 = .ok (.aload_n 0, 1) := by decide +kernel
theorem dJx4a65c_remove_915e3_19 : decode cJx4a65c_remove_915e3 19 = .ok (.aload_n 2, 1) := by decide +kernel
theorem dJx4a65c_remove_915e3_20 : decode cJx4a65c_remove_915e3 20 = .ok (.iload_n 1, 1) := by decide +kernel
theorem dJx4a65c_remove_915e3_21 : decode cJx4a65c_remove_915e3 21 = .ok (.invokevirtual 144, 3) := by decide +kernel
theorem dJx4a65c_remove_915e3_24 : decode cJx4a65c_remove_915e3 24 = .ok (.aload_n 3, 1) := by decide +kernel
theorem dJx4a65c_remove_915e3_25 : decode cJx4a65c_remove_915e3 25 = .ok (.areturn, 1) := by decide +kernel
def wJx4a65c_remove_915e3 (l0 : Nat) (l1 : Int32) (σ : kx_S) (Q : Option Nat → kx_S → Prop) : Prop := xt σ l0 = 1 ∧ wJ15_checkIndex_7cf53 l1 (xi σ 18 l0) σ (fun r3 σ2 => xt σ2 l0 = 1 ∧ ∃ a5, xr σ2 17 l0 = some a5 ∧ xt σ2 a5 = 22 ∧ vp_in l1 (xn σ2 a5) ∧ ∀ q9, q9 = xar σ2 a5 l1.toNatClampNeg → wJx4a65c_fastRemove_b59b0 l0 a5 l1 σ2 (fun σ10 => Q q9 σ10))
set_option maxRecDepth 100000 in
set_option maxHeartbeats 4000000 in
theorem hx_Jx4a65c_remove_915e3 (l : Launch) (G : kx_G) (l0 : Nat) (l1 : Int32) (σ : kx_S) (Q : Option Nat → kx_S → Prop) (h : wJx4a65c_remove_915e3 l0 l1 σ Q) : kx_M l G yJx4a65c_remove_915e3 cJx4a65c_remove_915e3 4 (some (.object "java/lang/Object")) (2) (123) [.ref l0, .int l1] σ (kx_rq Q) := by
  refine kx_enter (by decide) rfl (Nat.le_of_ble_eq_true rfl) ?_
  intro p e s m below meth c ls F hr hlocks C hname hl
  have hl : lv_has ls 4 [(0, .ref l0), (1, .int l1)] := hl
  obtain ⟨H, eH⟩ : ∃ z9, z9 = s.heap := ⟨_, rfl⟩
  obtain ⟨locs, eL⟩ : ∃ z9 : List Loc, z9 = [] := ⟨_, rfl⟩
  rw [← eH, ← eL] at C
  rw [← eH, ← eL]
  obtain ⟨σ0, e0⟩ : ∃ z9, z9 = σ := ⟨_, rfl⟩
  have C : kx_X G (xc σ0) s H locs σ := by rw [e0]; exact C
  suffices hgo : kx_W p l e (2) (123) (xc σ0) s m ([.ref l0, .int l1] : List Value).toArray below meth c H locs σ (MQ below (kx_Q G σ0 (kx_rq Q)) ([.ref l0, .int l1] : List Value).toArray s (kx_N - xc σ0) (600 * (kx_N - xc σ0)) (kx_A G)) (F0 m 0 ls []) by rw [e0] at hgo; exact hgo
  clear e0
  refine lv_iload_n F.1 F.2.1 dJx4a65c_remove_915e3_0 rfl (lv_at hl 1 rfl) ?_
  refine lv_aload_n F.1 F.2.1 dJx4a65c_remove_915e3_1 rfl (lv_at hl 0 rfl) ?_
  obtain ⟨ht1, h⟩ := h
  refine xg_Jx4a65c_size F C ht1 ux_145 (fun _ h9 => h9) dJx4a65c_remove_915e3_2 ?_
  refine xk_J15_checkIndex_7cf53 F C l1 (xi σ 18 l0) h ux_152 (Nat.le_of_ble_eq_true rfl) (Nat.le_of_ble_eq_true rfl) hl.1 (by simp [Value.category]) dJx4a65c_remove_915e3_5 (fun r3 σ2 H locs h C => ?_)
  refine lv_pop F.1 F.2.1 dJx4a65c_remove_915e3_8 rfl ?_
  refine lv_aload_n F.1 F.2.1 dJx4a65c_remove_915e3_9 rfl (lv_at hl 0 rfl) ?_
  obtain ⟨ht4, h⟩ := h
  refine xg_Jx4a65c_elementData F C ht4 ux_142 (fun _ h9 => h9) dJx4a65c_remove_915e3_10 ?_
  obtain ⟨a5, ea6, h⟩ := h
  refine xq_nn ea6 ?_
  refine lv_astore_n (lv' := [(2, .ref a5), (0, .ref l0), (1, .int l1)]) F.1 F.2.1 dJx4a65c_remove_915e3_13 rfl hl (by decide) rfl (fun ls hl => ?_)
  refine lv_aload_n F.1 F.2.1 dJx4a65c_remove_915e3_14 rfl (lv_at hl 0 rfl) ?_
  refine lv_iload_n F.1 F.2.1 dJx4a65c_remove_915e3_15 rfl (lv_at hl 2 rfl) ?_
  obtain ⟨ht7, h⟩ := h
  obtain ⟨hn8, h⟩ := h
  refine kx_aald F C ht7 hn8 dJx4a65c_remove_915e3_16 ?_
  refine xq_top (fun q9 eq9 => ?_)
  replace h := h q9 eq9
  refine xq_astore_n (lv' := [(3, va_rf q9), (2, .ref a5), (0, .ref l0), (1, .int l1)]) F.1 F.2.1 dJx4a65c_remove_915e3_17 rfl hl (by decide) rfl (fun ls hl => ?_)
  refine lv_aload_n F.1 F.2.1 dJx4a65c_remove_915e3_18 rfl (lv_at hl 2 rfl) ?_
  refine lv_aload_n F.1 F.2.1 dJx4a65c_remove_915e3_19 rfl (lv_at hl 1 rfl) ?_
  refine lv_iload_n F.1 F.2.1 dJx4a65c_remove_915e3_20 rfl (lv_at hl 3 rfl) ?_
  refine xk_Jx4a65c_fastRemove_b59b0 F C l0 a5 l1 ht4 h ux_197 (Nat.le_of_ble_eq_true rfl) (Nat.le_of_ble_eq_true rfl) hl.1 (by simp [Value.category]) dJx4a65c_remove_915e3_21 (fun σ10 H locs h C => ?_)
  refine xq_aload_n F.1 F.2.1 dJx4a65c_remove_915e3_24 rfl (lv_at hl 0 rfl) ?_
  exact kx_qret (v := q9) F C hr (Or.inl ⟨_, rfl⟩) hlocks h dJx4a65c_remove_915e3_25
section
variable {p : Program} {l : Launch} {e : Env} {fr lo c0 : Nat} {s : State} {m : MethodId} {args : Array Value} {below : List Frame} {meth : Method} {c : Code} {H : Heap} {locs : List Loc} {Q : State → Prop}
variable {cc : ByteArray} {pc nL index : Nat} {ls : Array Slot} {rest : List Value} {G : kx_G} {σ : kx_S} {own : String}
theorem xk_Jx4a65c_remove_915e3 {P : Option Nat → kx_S → Prop} (F : CallFix p m c cc nL s args kt_ own) (C : kx_X G c0 s H locs σ) (l0 : Nat) (l1 : Int32) (ha : xt σ l0 = 1) (h : wJx4a65c_remove_915e3 l0 l1 σ P) (hw : Cond.methodLink own index pz_lrem ∈ kt_) (h1 : (2) + 1 ≤ fr) (h2 : 8 + (4 + 11) + (123) ≤ lo) {count : Nat} (hsz : ls.size = nL) (hW : (rest.map fun v => v.category).sum ≤ 8) (hdg : decode cc pc = .ok (.invokeinterface index count, 5)) (kk : ∀ (r : Option Nat) (u : kx_S) (H1 : Heap) (locs1 : List Loc), P r u → kx_X G c0 s H1 locs1 u → kx_W p l e fr lo c0 s m args below meth c H1 locs1 u Q (F0 m (pc + 5) ls (va_rf r :: rest))) : kx_W p l e fr lo c0 s m args below meth c H locs σ Q (F0 m pc ls (.int l1 :: .ref l0 :: rest)) :=
  kx_cF (n := 1) (As := [.int l1]) F C ha (hx_Jx4a65c_remove_915e3 l G l0 l1 σ P h) hw ux_199 ux_200 ux_25 ux_198 C.2.2.1.2.2.2.1.2.2.1.2.2.2 (by decide +kernel) ⟨h1, h2⟩ rfl hsz hW hdg (fun v u H1 locs1 hP9 C9 => by obtain ⟨r, hv, hp⟩ := hP9; subst hv; exact kk r u H1 locs1 hp C9)
end
theorem dJ7_copyOf_59c91_0 : decode cJ7_copyOf_59c91 0 = .ok (.iload_n 1, 1) := by decide +kernel
theorem dJ7_copyOf_59c91_1 : decode cJ7_copyOf_59c91 1 = .ok (.aload_n 0, 1) := by decide +kernel
theorem dJ7_copyOf_59c91_2 : decode cJ7_copyOf_59c91 2 = .ok (.arraylength, 1) := by decide +kernel
theorem dJ7_copyOf_59c91_3 : decode cJ7_copyOf_59c91 3 = .ok (.if_icmp .ne 11, 3) := by decide +kernel
theorem dJ7_copyOf_59c91_6 : decode cJ7_copyOf_59c91 6 = .ok (.aload_n 0, 1) := by decide +kernel
theorem dJ7_copyOf_59c91_7 : decode cJ7_copyOf_59c91 7 = .ok (.invokevirtual 316, 3) := by decide +kernel
theorem dJ7_copyOf_59c91_10 : decode cJ7_copyOf_59c91 10 = .ok (.checkcast 317, 3) := by decide +kernel
theorem dJ7_copyOf_59c91_13 : decode cJ7_copyOf_59c91 13 = .ok (.areturn, 1) := by decide +kernel
theorem dJ7_copyOf_59c91_14 : decode cJ7_copyOf_59c91 14 = .ok (.iload_n 1, 1) := by decide +kernel
theorem dJ7_copyOf_59c91_15 : decode cJ7_copyOf_59c91 15 = .ok (.newarray .int, 2) := by decide +kernel
theorem dJ7_copyOf_59c91_17 : decode cJ7_copyOf_59c91 17 = .ok (.astore_n 2, 1) := by decide +kernel
theorem dJ7_copyOf_59c91_18 : decode cJ7_copyOf_59c91 18 = .ok (.aload_n 0, 1) := by decide +kernel
theorem dJ7_copyOf_59c91_19 : decode cJ7_copyOf_59c91 19 = .ok (.iconst 0, 1) := by decide +kernel
theorem dJ7_copyOf_59c91_20 : decode cJ7_copyOf_59c91 20 = .ok (.aload_n 2, 1) := by decide +kernel
theorem dJ7_copyOf_59c91_21 : decode cJ7_copyOf_59c91 21 = .ok (.iconst 0, 1) := by decide +kernel
theorem dJ7_copyOf_59c91_22 : decode cJ7_copyOf_59c91 22 = .ok (.aload_n 0, 1) := by decide +kernel
theorem dJ7_copyOf_59c91_23 : decode cJ7_copyOf_59c91 23 = .ok (.arraylength, 1) := by decide +kernel
theorem dJ7_copyOf_59c91_24 : decode cJ7_copyOf_59c91 24 = .ok (.iload_n 1, 1) := by decide +kernel
theorem dJ7_copyOf_59c91_25 : decode cJ7_copyOf_59c91 25 = .ok (.invokestatic 304, 3) := by decide +kernel
theorem dJ7_copyOf_59c91_28 : decode cJ7_copyOf_59c91 28 = .ok (.invokestatic 150, 3) := by decide +kernel
theorem dJ7_copyOf_59c91_31 : decode cJ7_copyOf_59c91 31 = .ok (.aload_n 2, 1) := by decide +kernel
theorem dJ7_copyOf_59c91_32 : decode cJ7_copyOf_59c91 32 = .ok (.areturn, 1) := by decide +kernel
def wJ7_copyOf_59c91 (l0 : Nat) (l1 : Int32) (σ : kx_S) (Q : Nat → kx_S → Prop) : Prop := xt σ l0 = 20 ∧ ((¬ l1 = (nI (xn σ l0)) → xc σ < kx_N ∧ ¬ l1 < 0 ∧ l1.toNatClampNeg ≤ 600 ∧ ∀ p3, xt σ p3 = 0 → p3 ≠ xz σ → ∀ σ9, σ9 = xnewA σ p3 20 l1.toNatClampNeg → xt σ9 l0 = 20 ∧ ∀ v12, v12 = (if l1 < (nI (xn σ9 l0)) then l1 else (nI (xn σ9 l0))) → ¬ (0 : Int32) < 0 ∧ ¬ (0 : Int32) < 0 ∧ ¬ v12 < 0 ∧ (Int32.toNatClampNeg 0) + v12.toNatClampNeg ≤ xn σ9 l0 ∧ (Int32.toNatClampNeg 0) + v12.toNatClampNeg ≤ xn σ9 p3 ∧ ∀ σ18, σ18 = xsAI σ9 p3 (va_cpy (xai σ9 l0) (xai σ9 p3) (Int32.toNatClampNeg 0) (Int32.toNatClampNeg 0) v12.toNatClampNeg) → Q p3 σ18) ∧
  (l1 = (nI (xn σ l0)) → xc σ < kx_N ∧ xn σ l0 ≤ 600 ∧ ∀ p23, xt σ p23 = 0 → p23 ≠ xz σ → ∀ σ26, σ26 = xsAI (xnewA σ p23 20 (xn σ l0)) p23 (xai σ l0) → Q p23 σ26))
set_option maxRecDepth 100000 in
set_option maxHeartbeats 4000000 in
theorem hx_J7_copyOf_59c91 (l : Launch) (G : kx_G) (l0 : Nat) (l1 : Int32) (σ : kx_S) (Q : Nat → kx_S → Prop) (h : wJ7_copyOf_59c91 l0 l1 σ Q) : kx_M l G yJ7_copyOf_59c91 cJ7_copyOf_59c91 3 (some (.array .int)) (1) (100) [.ref l0, .int l1] σ (kx_ra Q) := by
  refine kx_enter (by decide) rfl (Nat.le_of_ble_eq_true rfl) ?_
  intro p e s m below meth c ls F hr hlocks C hname hl
  have hl : lv_has ls 3 [(0, .ref l0), (1, .int l1)] := hl
  obtain ⟨H, eH⟩ : ∃ z9, z9 = s.heap := ⟨_, rfl⟩
  obtain ⟨locs, eL⟩ : ∃ z9 : List Loc, z9 = [] := ⟨_, rfl⟩
  rw [← eH, ← eL] at C
  rw [← eH, ← eL]
  obtain ⟨σ0, e0⟩ : ∃ z9, z9 = σ := ⟨_, rfl⟩
  have C : kx_X G (xc σ0) s H locs σ := by rw [e0]; exact C
  suffices hgo : kx_W p l e (1) (100) (xc σ0) s m ([.ref l0, .int l1] : List Value).toArray below meth c H locs σ (MQ below (kx_Q G σ0 (kx_ra Q)) ([.ref l0, .int l1] : List Value).toArray s (kx_N - xc σ0) (600 * (kx_N - xc σ0)) (kx_A G)) (F0 m 0 ls []) by rw [e0] at hgo; exact hgo
  clear e0
  refine lv_iload_n F.1 F.2.1 dJ7_copyOf_59c91_0 rfl (lv_at hl 1 rfl) ?_
  refine lv_aload_n F.1 F.2.1 dJ7_copyOf_59c91_1 rfl (lv_at hl 0 rfl) ?_
  obtain ⟨ht1, h⟩ := h
  refine kx_alen F C (Or.inl ht1) dJ7_copyOf_59c91_2 ?_
  refine lv_icmp_ne (tgt := 14) F.1 F.2.1 dJ7_copyOf_59c91_3 (by decide) (fun c2 => ?_) (fun c2 => ?_)
  · replace h := h.1 c2
    refine lv_iload_n F.1 F.2.1 dJ7_copyOf_59c91_14 rfl (lv_at hl 1 rfl) ?_
    obtain ⟨hn4, hn5, hn6, h⟩ := h
    refine kx_newi F C ux_201 hn4 hn5 hn6 dJ7_copyOf_59c91_15 (fun p3 H z7 z8 C => ?_)
    replace h := h p3 z7 (fun h9 => z8 (h9.trans (show xz σ = _ from C.2.1.1)))
    generalize eσ9 : xnewA σ p3 20 l1.toNatClampNeg = σ9 at C ⊢
    replace h := h σ9 eσ9.symm
    have ht10 : xt σ9 p3 = 20 := by rw [← eσ9]; exact va_up_self _ _ _
    refine lv_astore_n (lv' := [(2, .ref p3), (0, .ref l0), (1, .int l1)]) F.1 F.2.1 dJ7_copyOf_59c91_17 rfl hl (by decide) rfl (fun ls hl => ?_)
    refine lv_aload_n F.1 F.2.1 dJ7_copyOf_59c91_18 rfl (lv_at hl 1 rfl) ?_
    refine lv_iconst (v := 0) F.1 F.2.1 dJ7_copyOf_59c91_19 (by decide) ?_
    refine lv_aload_n F.1 F.2.1 dJ7_copyOf_59c91_20 rfl (lv_at hl 0 rfl) ?_
    refine lv_iconst (v := 0) F.1 F.2.1 dJ7_copyOf_59c91_21 (by decide) ?_
    refine lv_aload_n F.1 F.2.1 dJ7_copyOf_59c91_22 rfl (lv_at hl 1 rfl) ?_
    obtain ⟨ht11, h⟩ := h
    refine kx_alen F C (Or.inl ht11) dJ7_copyOf_59c91_23 ?_
    refine lv_iload_n F.1 F.2.1 dJ7_copyOf_59c91_24 rfl (lv_at hl 2 rfl) ?_
    refine kx_min F C ux_162 (Nat.le_of_ble_eq_true rfl) (by simp [Value.category]) hl.1 dJ7_copyOf_59c91_25 ?_
    refine lv_topi (fun v12 ev12 => ?_)
    replace h := h v12 ev12
    obtain ⟨hn13, hn14, hn15, hn16, hn17, h⟩ := h
    refine kx_copyi F C ux_163 ht11 ht10 hn13 hn14 hn15 hn16 hn17 (Nat.le_of_ble_eq_true rfl) (by simp [Value.category]) hl.1 dJ7_copyOf_59c91_28 (fun H locs C => ?_)
    generalize eσ18 : xsAI σ9 p3 (va_cpy (xai σ9 l0) (xai σ9 p3) (Int32.toNatClampNeg 0) (Int32.toNatClampNeg 0) v12.toNatClampNeg) = σ18 at C ⊢
    replace h := h σ18 eσ18.symm
    have ht19 : xt σ18 p3 = 20 := by rw [← eσ18]; exact ht10
    have ht20 : xt σ18 l0 = 20 := by rw [← eσ18]; exact ht11
    refine lv_aload_n F.1 F.2.1 dJ7_copyOf_59c91_31 rfl (lv_at hl 0 rfl) ?_
    exact kx_aret F C hr (Or.inr ⟨_, rfl⟩) hlocks h dJ7_copyOf_59c91_32
  · replace h := h.2 c2
    refine lv_aload_n F.1 F.2.1 dJ7_copyOf_59c91_6 rfl (lv_at hl 0 rfl) ?_
    obtain ⟨hn21, hn22, h⟩ := h
    refine kx_clone F C ht1 hn21 hn22 (Nat.le_of_ble_eq_true rfl) (by simp [Value.category]) hl.1 dJ7_copyOf_59c91_7 (fun p23 H z24 z25 C => ?_)
    replace h := h p23 z24 (fun h9 => z25 (h9.trans (show xz σ = _ from C.2.1.1)))
    generalize eσ26 : xsAI (xnewA σ p23 20 (xn σ l0)) p23 (xai σ l0) = σ26 at C ⊢
    replace h := h σ26 eσ26.symm
    have ht27 : xt σ26 p23 = 20 := by rw [← eσ26]; exact va_up_self _ _ _
    refine kx_castI F C ht27 ux_202 dJ7_copyOf_59c91_10 ?_
    exact kx_aret F C hr (Or.inr ⟨_, rfl⟩) hlocks h dJ7_copyOf_59c91_13
section
variable {p : Program} {l : Launch} {e : Env} {fr lo c0 : Nat} {s : State} {m : MethodId} {args : Array Value} {below : List Frame} {meth : Method} {c : Code} {H : Heap} {locs : List Loc} {Q : State → Prop}
variable {cc : ByteArray} {pc nL index : Nat} {ls : Array Slot} {rest : List Value} {G : kx_G} {σ : kx_S} {own : String}
theorem xk_J7_copyOf_59c91 {P : Nat → kx_S → Prop} (F : CallFix p m c cc nL s args kt_ own) (C : kx_X G c0 s H locs σ) (l0 : Nat) (l1 : Int32) (h : wJ7_copyOf_59c91 l0 l1 σ P) (hw : Cond.methodLink own index yJ7_copyOf_59c91 ∈ kt_) (h1 : (1) + 1 ≤ fr) (h2 : 8 + (3 + 11) + (100) ≤ lo) (hsz : ls.size = nL) (hW : (rest.map fun v => v.category).sum ≤ 8) (hdg : decode cc pc = .ok (.invokestatic index, 3)) (kk : ∀ (r : Nat) (u : kx_S) (H1 : Heap) (locs1 : List Loc), P r u → kx_X G c0 s H1 locs1 u → kx_W p l e fr lo c0 s m args below meth c H1 locs1 u Q (F0 m (pc + 3) ls (.ref r :: rest))) : kx_W p l e fr lo c0 s m args below meth c H locs σ Q (F0 m pc ls (.int l1 :: .ref l0 :: rest)) :=
  kx_cS (n := 2) (As := [.ref l0, .int l1]) F C (hx_J7_copyOf_59c91 l G l0 l1 σ P h) (kt_S hw ux_204 ux_167 ux_203) (by decide +kernel) ⟨h1, h2⟩ rfl hsz hW hdg (fun v u H1 locs1 hP9 C9 => by obtain ⟨r, hv, hp⟩ := hP9; subst hv; exact kk r u H1 locs1 hp C9)
end

theorem dX12_waterGoes_0 : decode cX12_waterGoes 0 = .ok (.iconst 0, 1) := by decide +kernel
theorem dX12_waterGoes_1 : decode cX12_waterGoes 1 = .ok (.istore_n 1, 1) := by decide +kernel
theorem dX12_waterGoes_2 : decode cX12_waterGoes 2 = .ok (.iload_n 1, 1) := by decide +kernel
theorem dX12_waterGoes_3 : decode cX12_waterGoes 3 = .ok (.aload_n 0, 1) := by decide +kernel
theorem dX12_waterGoes_4 : decode cX12_waterGoes 4 = .ok (.getfield 176, 3) := by decide +kernel
theorem dX12_waterGoes_7 : decode cX12_waterGoes 7 = .ok (.if_icmp .ge 21, 3) := by decide +kernel
theorem dX12_waterGoes_10 : decode cX12_waterGoes 10 = .ok (.aload_n 0, 1) := by decide +kernel
theorem dX12_waterGoes_11 : decode cX12_waterGoes 11 = .ok (.getfield 55, 3) := by decide +kernel
theorem dX12_waterGoes_14 : decode cX12_waterGoes 14 = .ok (.iload_n 1, 1) := by decide +kernel
theorem dX12_waterGoes_15 : decode cX12_waterGoes 15 = .ok (.aload_n 0, 1) := by decide +kernel
theorem dX12_waterGoes_16 : decode cX12_waterGoes 16 = .ok (.getfield 46, 3) := by decide +kernel
theorem dX12_waterGoes_19 : decode cX12_waterGoes 19 = .ok (.iload_n 1, 1) := by decide +kernel
theorem dX12_waterGoes_20 : decode cX12_waterGoes 20 = .ok (.iaload, 1) := by decide +kernel
theorem dX12_waterGoes_21 : decode cX12_waterGoes 21 = .ok (.iastore, 1) := by decide +kernel
theorem dX12_waterGoes_22 : decode cX12_waterGoes 22 = .ok (.iinc 1 1, 3) := by decide +kernel
theorem dX12_waterGoes_25 : decode cX12_waterGoes 25 = .ok (.goto (-23), 3) := by decide +kernel
theorem dX12_waterGoes_28 : decode cX12_waterGoes 28 = .ok (.aload_n 0, 1) := by decide +kernel
theorem dX12_waterGoes_29 : decode cX12_waterGoes 29 = .ok (.getfield 176, 3) := by decide +kernel
theorem dX12_waterGoes_32 : decode cX12_waterGoes 32 = .ok (.iconst 1, 1) := by decide +kernel
theorem dX12_waterGoes_33 : decode cX12_waterGoes 33 = .ok (.isub, 1) := by decide +kernel
theorem dX12_waterGoes_34 : decode cX12_waterGoes 34 = .ok (.istore_n 1, 1) := by decide +kernel
theorem dX12_waterGoes_35 : decode cX12_waterGoes 35 = .ok (.iload_n 1, 1) := by decide +kernel
theorem dX12_waterGoes_36 : decode cX12_waterGoes 36 = .ok (.ifCond .lt 185, 3) := by decide +kernel
theorem dX12_waterGoes_39 : decode cX12_waterGoes 39 = .ok (.aload_n 0, 1) := by decide +kernel
theorem dX12_waterGoes_40 : decode cX12_waterGoes 40 = .ok (.dup, 1) := by decide +kernel
theorem dX12_waterGoes_41 : decode cX12_waterGoes 41 = .ok (.getfield 329, 3) := by decide +kernel
theorem dX12_waterGoes_44 : decode cX12_waterGoes 44 = .ok (.aload_n 0, 1) := by decide +kernel
theorem dX12_waterGoes_45 : decode cX12_waterGoes 45 = .ok (.getfield 46, 3) := by decide +kernel
theorem dX12_waterGoes_48 : decode cX12_waterGoes 48 = .ok (.iload_n 1, 1) := by decide +kernel
theorem dX12_waterGoes_49 : decode cX12_waterGoes 49 = .ok (.iaload, 1) := by decide +kernel
theorem dX12_waterGoes_50 : decode cX12_waterGoes 50 = .ok (.i2l, 1) := by decide +kernel
theorem dX12_waterGoes_51 : decode cX12_waterGoes 51 = .ok (.ladd, 1) := by decide +kernel
theorem dX12_waterGoes_52 : decode cX12_waterGoes 52 = .ok (.putfield 329, 3) := by decide +kernel
theorem dX12_waterGoes_55 : decode cX12_waterGoes 55 = .ok (.aload_n 0, 1) := by decide +kernel
theorem dX12_waterGoes_56 : decode cX12_waterGoes 56 = .ok (.getfield 49, 3) := by decide +kernel
theorem dX12_waterGoes_59 : decode cX12_waterGoes 59 = .ok (.iload_n 1, 1) := by decide +kernel
theorem dX12_waterGoes_60 : decode cX12_waterGoes 60 = .ok (.aload_n 0, 1) := by decide +kernel
theorem dX12_waterGoes_61 : decode cX12_waterGoes 61 = .ok (.getfield 55, 3) := by decide +kernel
theorem dX12_waterGoes_64 : decode cX12_waterGoes 64 = .ok (.iload_n 1, 1) := by decide +kernel
theorem dX12_waterGoes_65 : decode cX12_waterGoes 65 = .ok (.iaload, 1) := by decide +kernel
theorem dX12_waterGoes_66 : decode cX12_waterGoes 66 = .ok (.iastore, 1) := by decide +kernel
theorem dX12_waterGoes_67 : decode cX12_waterGoes 67 = .ok (.aload_n 0, 1) := by decide +kernel
theorem dX12_waterGoes_68 : decode cX12_waterGoes 68 = .ok (.getfield 52, 3) := by decide +kernel
theorem dX12_waterGoes_71 : decode cX12_waterGoes 71 = .ok (.iload_n 1, 1) := by decide +kernel
theorem dX12_waterGoes_72 : decode cX12_waterGoes 72 = .ok (.aload_n 0, 1) := by decide +kernel
theorem dX12_waterGoes_73 : decode cX12_waterGoes 73 = .ok (.getfield 55, 3) := by decide +kernel
theorem dX12_waterGoes_76 : decode cX12_waterGoes 76 = .ok (.iload_n 1, 1) := by decide +kernel
theorem dX12_waterGoes_77 : decode cX12_waterGoes 77 = .ok (.iaload, 1) := by decide +kernel
theorem dX12_waterGoes_78 : decode cX12_waterGoes 78 = .ok (.iastore, 1) := by decide +kernel
theorem dX12_waterGoes_79 : decode cX12_waterGoes 79 = .ok (.aload_n 0, 1) := by decide +kernel
theorem dX12_waterGoes_80 : decode cX12_waterGoes 80 = .ok (.getfield 58, 3) := by decide +kernel
theorem dX12_waterGoes_83 : decode cX12_waterGoes 83 = .ok (.iload_n 1, 1) := by decide +kernel
theorem dX12_waterGoes_84 : decode cX12_waterGoes 84 = .ok (.baload, 1) := by decide +kernel
theorem dX12_waterGoes_85 : decode cX12_waterGoes 85 = .ok (.ifCond .eq 81, 3) := by decide +kernel
theorem dX12_waterGoes_88 : decode cX12_waterGoes 88 = .ok (.aload_n 0, 1) := by decide +kernel
theorem dX12_waterGoes_89 : decode cX12_waterGoes 89 = .ok (.getfield 71, 3) := by decide +kernel
theorem dX12_waterGoes_92 : decode cX12_waterGoes 92 = .ok (.iload_n 1, 1) := by decide +kernel
theorem dX12_waterGoes_93 : decode cX12_waterGoes 93 = .ok (.dup2, 1) := by decide +kernel
theorem dX12_waterGoes_94 : decode cX12_waterGoes 94 = .ok (.iaload, 1) := by decide +kernel
theorem dX12_waterGoes_95 : decode cX12_waterGoes 95 = .ok (.aload_n 0, 1) := by decide +kernel
theorem dX12_waterGoes_96 : decode cX12_waterGoes 96 = .ok (.getfield 55, 3) := by decide +kernel
theorem dX12_waterGoes_99 : decode cX12_waterGoes 99 = .ok (.iload_n 1, 1) := by decide +kernel
theorem dX12_waterGoes_100 : decode cX12_waterGoes 100 = .ok (.iaload, 1) := by decide +kernel
theorem dX12_waterGoes_101 : decode cX12_waterGoes 101 = .ok (.iadd, 1) := by decide +kernel
theorem dX12_waterGoes_102 : decode cX12_waterGoes 102 = .ok (.iastore, 1) := by decide +kernel
theorem dX12_waterGoes_103 : decode cX12_waterGoes 103 = .ok (.iconst 0, 1) := by decide +kernel
theorem dX12_waterGoes_104 : decode cX12_waterGoes 104 = .ok (.aload_n 0, 1) := by decide +kernel
theorem dX12_waterGoes_105 : decode cX12_waterGoes 105 = .ok (.getfield 71, 3) := by decide +kernel
theorem dX12_waterGoes_108 : decode cX12_waterGoes 108 = .ok (.iload_n 1, 1) := by decide +kernel
theorem dX12_waterGoes_109 : decode cX12_waterGoes 109 = .ok (.iaload, 1) := by decide +kernel
theorem dX12_waterGoes_110 : decode cX12_waterGoes 110 = .ok (.aload_n 0, 1) := by decide +kernel
theorem dX12_waterGoes_111 : decode cX12_waterGoes 111 = .ok (.getfield 68, 3) := by decide +kernel
theorem dX12_waterGoes_114 : decode cX12_waterGoes 114 = .ok (.iload_n 1, 1) := by decide +kernel
theorem dX12_waterGoes_115 : decode cX12_waterGoes 115 = .ok (.iaload, 1) := by decide +kernel
theorem dX12_waterGoes_116 : decode cX12_waterGoes 116 = .ok (.isub, 1) := by decide +kernel
theorem dX12_waterGoes_117 : decode cX12_waterGoes 117 = .ok (.invokestatic 333, 3) := by decide +kernel
theorem dX12_waterGoes_120 : decode cX12_waterGoes 120 = .ok (.istore_n 2, 1) := by decide +kernel
theorem dX12_waterGoes_121 : decode cX12_waterGoes 121 = .ok (.aload_n 0, 1) := by decide +kernel
theorem dX12_waterGoes_122 : decode cX12_waterGoes 122 = .ok (.getfield 71, 3) := by decide +kernel
theorem dX12_waterGoes_125 : decode cX12_waterGoes 125 = .ok (.iload_n 1, 1) := by decide +kernel
theorem dX12_waterGoes_126 : decode cX12_waterGoes 126 = .ok (.dup2, 1) := by decide +kernel
theorem dX12_waterGoes_127 : decode cX12_waterGoes 127 = .ok (.iaload, 1) := by decide +kernel
theorem dX12_waterGoes_128 : decode cX12_waterGoes 128 = .ok (.iload_n 2, 1) := by decide +kernel
theorem dX12_waterGoes_129 : decode cX12_waterGoes 129 = .ok (.isub, 1) := by decide +kernel
theorem dX12_waterGoes_130 : decode cX12_waterGoes 130 = .ok (.iastore, 1) := by decide +kernel
theorem dX12_waterGoes_131 : decode cX12_waterGoes 131 = .ok (.aload_n 0, 1) := by decide +kernel
theorem dX12_waterGoes_132 : decode cX12_waterGoes 132 = .ok (.getfield 74, 3) := by decide +kernel
theorem dX12_waterGoes_135 : decode cX12_waterGoes 135 = .ok (.iload_n 1, 1) := by decide +kernel
theorem dX12_waterGoes_136 : decode cX12_waterGoes 136 = .ok (.iaload, 1) := by decide +kernel
theorem dX12_waterGoes_137 : decode cX12_waterGoes 137 = .ok (.aload_n 0, 1) := by decide +kernel
theorem dX12_waterGoes_138 : decode cX12_waterGoes 138 = .ok (.getfield 71, 3) := by decide +kernel
theorem dX12_waterGoes_141 : decode cX12_waterGoes 141 = .ok (.iload_n 1, 1) := by decide +kernel
theorem dX12_waterGoes_142 : decode cX12_waterGoes 142 = .ok (.iaload, 1) := by decide +kernel
theorem dX12_waterGoes_143 : decode cX12_waterGoes 143 = .ok (.invokestatic 338, 3) := by decide +kernel
theorem dX12_waterGoes_146 : decode cX12_waterGoes 146 = .ok (.istore_n 3, 1) := by decide +kernel
theorem dX12_waterGoes_147 : decode cX12_waterGoes 147 = .ok (.aload_n 0, 1) := by decide +kernel
theorem dX12_waterGoes_148 : decode cX12_waterGoes 148 = .ok (.getfield 71, 3) := by decide +kernel
theorem dX12_waterGoes_151 : decode cX12_waterGoes 151 = .ok (.iload_n 1, 1) := by decide +kernel
theorem dX12_waterGoes_152 : decode cX12_waterGoes 152 = .ok (.dup2, 1) := by decide +kernel
theorem dX12_waterGoes_153 : decode cX12_waterGoes 153 = .ok (.iaload, 1) := by decide +kernel
theorem dX12_waterGoes_154 : decode cX12_waterGoes 154 = .ok (.iload_n 3, 1) := by decide +kernel
theorem dX12_waterGoes_155 : decode cX12_waterGoes 155 = .ok (.isub, 1) := by decide +kernel
theorem dX12_waterGoes_156 : decode cX12_waterGoes 156 = .ok (.iastore, 1) := by decide +kernel
theorem dX12_waterGoes_157 : decode cX12_waterGoes 157 = .ok (.aload_n 0, 1) := by decide +kernel
theorem dX12_waterGoes_158 : decode cX12_waterGoes 158 = .ok (.getfield 52, 3) := by decide +kernel
theorem dX12_waterGoes_161 : decode cX12_waterGoes 161 = .ok (.iload_n 1, 1) := by decide +kernel
theorem dX12_waterGoes_162 : decode cX12_waterGoes 162 = .ok (.iload_n 3, 1) := by decide +kernel
theorem dX12_waterGoes_163 : decode cX12_waterGoes 163 = .ok (.iload_n 2, 1) := by decide +kernel
theorem dX12_waterGoes_164 : decode cX12_waterGoes 164 = .ok (.iadd, 1) := by decide +kernel
theorem dX12_waterGoes_165 : decode cX12_waterGoes 165 = .ok (.iastore, 1) := by decide +kernel
theorem dX12_waterGoes_166 : decode cX12_waterGoes 166 = .ok (.aload_n 0, 1) := by decide +kernel
theorem dX12_waterGoes_167 : decode cX12_waterGoes 167 = .ok (.getfield 33, 3) := by decide +kernel
theorem dX12_waterGoes_170 : decode cX12_waterGoes 170 = .ok (.iload_n 1, 1) := by decide +kernel
theorem dX12_waterGoes_171 : decode cX12_waterGoes 171 = .ok (.iaload, 1) := by decide +kernel
theorem dX12_waterGoes_172 : decode cX12_waterGoes 172 = .ok (.iconst (-1), 1) := by decide +kernel
theorem dX12_waterGoes_173 : decode cX12_waterGoes 173 = .ok (.if_icmp .ne 22, 3) := by decide +kernel
theorem dX12_waterGoes_176 : decode cX12_waterGoes 176 = .ok (.aload_n 0, 1) := by decide +kernel
theorem dX12_waterGoes_177 : decode cX12_waterGoes 177 = .ok (.dup, 1) := by decide +kernel
theorem dX12_waterGoes_178 : decode cX12_waterGoes 178 = .ok (.getfield 341, 3) := by decide +kernel
theorem dX12_waterGoes_181 : decode cX12_waterGoes 181 = .ok (.aload_n 0, 1) := by decide +kernel
theorem dX12_waterGoes_182 : decode cX12_waterGoes 182 = .ok (.getfield 52, 3) := by decide +kernel
theorem dX12_waterGoes_185 : decode cX12_waterGoes 185 = .ok (.iload_n 1, 1) := by decide +kernel
theorem dX12_waterGoes_186 : decode cX12_waterGoes 186 = .ok (.iaload, 1) := by decide +kernel
theorem dX12_waterGoes_187 : decode cX12_waterGoes 187 = .ok (.i2l, 1) := by decide +kernel
theorem dX12_waterGoes_188 : decode cX12_waterGoes 188 = .ok (.ladd, 1) := by decide +kernel
theorem dX12_waterGoes_189 : decode cX12_waterGoes 189 = .ok (.putfield 341, 3) := by decide +kernel
theorem dX12_waterGoes_192 : decode cX12_waterGoes 192 = .ok (.goto 23, 3) := by decide +kernel
theorem dX12_waterGoes_195 : decode cX12_waterGoes 195 = .ok (.aload_n 0, 1) := by decide +kernel
theorem dX12_waterGoes_196 : decode cX12_waterGoes 196 = .ok (.getfield 55, 3) := by decide +kernel
theorem dX12_waterGoes_199 : decode cX12_waterGoes 199 = .ok (.aload_n 0, 1) := by decide +kernel
theorem dX12_waterGoes_200 : decode cX12_waterGoes 200 = .ok (.getfield 33, 3) := by decide +kernel
theorem dX12_waterGoes_203 : decode cX12_waterGoes 203 = .ok (.iload_n 1, 1) := by decide +kernel
theorem dX12_waterGoes_204 : decode cX12_waterGoes 204 = .ok (.iaload, 1) := by decide +kernel
theorem dX12_waterGoes_205 : decode cX12_waterGoes 205 = .ok (.dup2, 1) := by decide +kernel
theorem dX12_waterGoes_206 : decode cX12_waterGoes 206 = .ok (.iaload, 1) := by decide +kernel
theorem dX12_waterGoes_207 : decode cX12_waterGoes 207 = .ok (.aload_n 0, 1) := by decide +kernel
theorem dX12_waterGoes_208 : decode cX12_waterGoes 208 = .ok (.getfield 52, 3) := by decide +kernel
theorem dX12_waterGoes_211 : decode cX12_waterGoes 211 = .ok (.iload_n 1, 1) := by decide +kernel
theorem dX12_waterGoes_212 : decode cX12_waterGoes 212 = .ok (.iaload, 1) := by decide +kernel
theorem dX12_waterGoes_213 : decode cX12_waterGoes 213 = .ok (.iadd, 1) := by decide +kernel
theorem dX12_waterGoes_214 : decode cX12_waterGoes 214 = .ok (.iastore, 1) := by decide +kernel
theorem dX12_waterGoes_215 : decode cX12_waterGoes 215 = .ok (.iinc 1 (-1), 3) := by decide +kernel
theorem dX12_waterGoes_218 : decode cX12_waterGoes 218 = .ok (.goto (-183), 3) := by decide +kernel
theorem dX12_waterGoes_221 : decode cX12_waterGoes 221 = .ok (.return_, 1) := by decide +kernel
def wX12_waterGoes_215 (k35 : Int32 → km_S → Prop) (Q : km_S → Prop) (l1 : Int32) (μ : km_S) : Prop := ∀ v1 : Int32, v1 = l1 + (-1) → k35 v1 μ
def wX12_waterGoes_2 (k28 : km_S → Prop) (Q : km_S → Prop) : Nat → Int32 → km_S → Prop
  | 0, _, _ => False
  | n + 1, l1, μ => (((km_i μ 3) ≤ l1 → k28 μ) ∧
    (¬ ((km_i μ 3) ≤ l1) → vp_in l1 10 ∧ vp_in l1 10 ∧ ∀ μ5, μ5 = km_sa μ 20 l1.toNatClampNeg (km_a μ 17 l1.toNatClampNeg) → ∀ v6 : Int32, v6 = l1 + 1 → wX12_waterGoes_2 k28 Q n v6 μ5))
def wX12_waterGoes_166 (k35 : Int32 → km_S → Prop) (Q : km_S → Prop) (l1 : Int32) (μ : km_S) : Prop := vp_in l1 10 ∧ ((¬ (km_a μ 13 l1.toNatClampNeg) = (-1) → vp_in l1 10 ∧ vp_in (km_a μ 13 l1.toNatClampNeg) 10 ∧ vp_in l1 10 ∧ vp_in (km_a μ 13 l1.toNatClampNeg) 10 ∧ ∀ μ13, μ13 = km_sa μ 20 (km_a μ 13 l1.toNatClampNeg).toNatClampNeg ((km_a μ 20 (km_a μ 13 l1.toNatClampNeg).toNatClampNeg) + (km_a μ 19 l1.toNatClampNeg)) → wX12_waterGoes_215 k35 Q l1 μ13) ∧
  ((km_a μ 13 l1.toNatClampNeg) = (-1) → vp_in l1 10 ∧ ∀ μ15, μ15 = km_sl μ 12 ((km_l μ 12) + ((km_a μ 19 l1.toNatClampNeg).toInt64)) → wX12_waterGoes_215 k35 Q l1 μ15))
def wX12_waterGoes_35 (Q : km_S → Prop) : Nat → Int32 → km_S → Prop
  | 0, _, _ => False
  | n + 1, l1, μ => ((l1 < 0 → Q μ) ∧
    (¬ (l1 < 0) → vp_in l1 10 ∧ ∀ μ18, μ18 = km_sl μ 11 ((km_l μ 11) + ((km_a μ 17 l1.toNatClampNeg).toInt64)) → vp_in l1 10 ∧ vp_in l1 10 ∧ ∀ μ21, μ21 = km_sa μ18 18 l1.toNatClampNeg (km_a μ18 20 l1.toNatClampNeg) → vp_in l1 10 ∧ vp_in l1 10 ∧ ∀ μ24, μ24 = km_sa μ21 19 l1.toNatClampNeg (km_a μ21 20 l1.toNatClampNeg) → vp_in l1 10 ∧ (((km_a μ24 21 l1.toNatClampNeg) = 0 → wX12_waterGoes_166 (wX12_waterGoes_35 Q n) Q l1 μ24) ∧
      (¬ ((km_a μ24 21 l1.toNatClampNeg) = 0) → vp_in l1 10 ∧ vp_in l1 10 ∧ vp_in l1 10 ∧ ∀ μ30, μ30 = km_sa μ24 25 l1.toNatClampNeg ((km_a μ24 25 l1.toNatClampNeg) + (km_a μ24 20 l1.toNatClampNeg)) → vp_in l1 10 ∧ vp_in l1 10 ∧ ∀ v33, v33 = (if 0 < ((km_a μ30 25 l1.toNatClampNeg) - (km_a μ30 24 l1.toNatClampNeg)) then ((km_a μ30 25 l1.toNatClampNeg) - (km_a μ30 24 l1.toNatClampNeg)) else 0) → vp_in l1 10 ∧ vp_in l1 10 ∧ ∀ μ36, μ36 = km_sa μ30 25 l1.toNatClampNeg ((km_a μ30 25 l1.toNatClampNeg) - v33) → vp_in l1 10 ∧ vp_in l1 10 ∧ ∀ v39, v39 = (if (km_a μ36 25 l1.toNatClampNeg) < (km_a μ36 26 l1.toNatClampNeg) then (km_a μ36 25 l1.toNatClampNeg) else (km_a μ36 26 l1.toNatClampNeg)) → vp_in l1 10 ∧ vp_in l1 10 ∧ ∀ μ42, μ42 = km_sa μ36 25 l1.toNatClampNeg ((km_a μ36 25 l1.toNatClampNeg) - v39) → vp_in l1 10 ∧ ∀ μ44, μ44 = km_sa μ42 19 l1.toNatClampNeg (v39 + v33) → wX12_waterGoes_166 (wX12_waterGoes_35 Q n) Q l1 μ44))))
def wX12_waterGoes_28 (Q : km_S → Prop) (μ : km_S) : Prop := ∀ v45, v45 = (km_i μ 3) - 1 → ∃ j, wX12_waterGoes_35 Q j v45 μ
def wX12_waterGoes (μ : km_S) (Q : km_S → Prop) : Prop := ∃ j, wX12_waterGoes_2 (wX12_waterGoes_28 Q) Q j 0 μ
set_option maxRecDepth 100000 in
set_option maxHeartbeats 4000000 in
theorem tX12_waterGoes_215 (l : Launch) (G : km_G) {p : Program} {e : Env} {s : State} {m : MethodId} {args : Array Value} {below : List Frame} {meth : Method} {c : Code} (F : CallFix p m c cX12_waterGoes 4 s args kt_ RX12) (hr : meth.sig.returnType = none) (hlocks : meth.locks = false) (Q : km_S → Prop) (k35 : Int32 → km_S → Prop) (hk35 : ∀ (l1 : Int32) (μ : km_S) (H : Heap) (locs : List Loc) (ls : Array Slot), k35 l1 μ → km_X G s H locs μ → lv_has ls 4 [(0, .ref (G.1 0)), (1, .int l1)] → W p l e { frames := 1, cells := 0, slots := 0, locals := 13 } s m args below meth c H locs 0 0 (MQ below (km_Qv G Q) args s 0 0 (km_A G)) (F0 m 35 ls [])) : ∀ (l1 : Int32) (μ : km_S) (H : Heap) (locs : List Loc) (ls : Array Slot), wX12_waterGoes_215 k35 Q l1 μ → km_X G s H locs μ → lv_has ls 4 [(0, .ref (G.1 0)), (1, .int l1)] → W p l e { frames := 1, cells := 0, slots := 0, locals := 13 } s m args below meth c H locs 0 0 (MQ below (km_Qv G Q) args s 0 0 (km_A G)) (F0 m 215 ls []) := by
  intro l1 μ H locs ls h C hl
  obtain ⟨v1, ev1⟩ : ∃ z9 : Int32, z9 = l1 + (-1) := ⟨_, rfl⟩
  have h := h v1 ev1
  refine lv_iinc (v := v1) (lv' := [(1, .int v1), (0, .ref (G.1 0))]) F.1 F.2.1 dX12_waterGoes_215 hl (k := 1) rfl (by rw [ev1]; rfl) (by decide) rfl (fun ls hl => ?_)
  refine lv_goto (tgt := 35) F.1 F.2.1 dX12_waterGoes_218 (by decide) ?_
  exact hk35 v1 μ H locs ls h C (lv_sub hl [1, 0] rfl)
set_option maxRecDepth 100000 in
set_option maxHeartbeats 4000000 in
theorem tX12_waterGoes_2 (l : Launch) (G : km_G) {p : Program} {e : Env} {s : State} {m : MethodId} {args : Array Value} {below : List Frame} {meth : Method} {c : Code} (F : CallFix p m c cX12_waterGoes 4 s args kt_ RX12) (hr : meth.sig.returnType = none) (hlocks : meth.locks = false) (Q : km_S → Prop) (k28 : km_S → Prop) (hk28 : ∀  (μ : km_S) (H : Heap) (locs : List Loc) (ls : Array Slot), k28  μ → km_X G s H locs μ → lv_has ls 4 [(0, .ref (G.1 0))] → W p l e { frames := 1, cells := 0, slots := 0, locals := 13 } s m args below meth c H locs 0 0 (MQ below (km_Qv G Q) args s 0 0 (km_A G)) (F0 m 28 ls [])) : ∀ (n : Nat) (l1 : Int32) (μ : km_S) (H : Heap) (locs : List Loc) (ls : Array Slot), wX12_waterGoes_2 k28 Q n l1 μ → km_X G s H locs μ → lv_has ls 4 [(0, .ref (G.1 0)), (1, .int l1)] → W p l e { frames := 1, cells := 0, slots := 0, locals := 13 } s m args below meth c H locs 0 0 (MQ below (km_Qv G Q) args s 0 0 (km_A G)) (F0 m 2 ls []) := by
  intro n
  induction n with
  | zero => intro l1 μ H locs ls h; exact h.elim
  | succ n ih =>
    intro l1 μ H locs ls h C hl
    refine lv_iload_n F.1 F.2.1 dX12_waterGoes_2 rfl (lv_at hl 1 rfl) ?_
    refine lv_aload_n F.1 F.2.1 dX12_waterGoes_3 rfl (lv_at hl 0 rfl) ?_
    refine kg_reaches F C dX12_waterGoes_4 ?_
    refine lv_icmp_ge (tgt := 28) F.1 F.2.1 dX12_waterGoes_7 (by decide) (fun c2 => ?_) (fun c2 => ?_)
    · have h := h.1 c2
      exact hk28 μ H locs ls h C (lv_sub hl [0] rfl)
    · have h := h.2 c2
      refine lv_aload_n F.1 F.2.1 dX12_waterGoes_10 rfl (lv_at hl 0 rfl) ?_
      refine kg_in F C dX12_waterGoes_11 ?_
      refine lv_iload_n F.1 F.2.1 dX12_waterGoes_14 rfl (lv_at hl 1 rfl) ?_
      refine lv_aload_n F.1 F.2.1 dX12_waterGoes_15 rfl (lv_at hl 0 rfl) ?_
      refine kg_melt F C dX12_waterGoes_16 ?_
      refine lv_iload_n F.1 F.2.1 dX12_waterGoes_19 rfl (lv_at hl 1 rfl) ?_
      obtain ⟨hn3, h⟩ := h
      refine kl_melt F C hn3 dX12_waterGoes_20 ?_
      obtain ⟨hn4, h⟩ := h
      refine kq_in F C hn4 dX12_waterGoes_21 (fun H locs C => ?_)
      generalize eμ5 : km_sa μ 20 l1.toNatClampNeg (km_a μ 17 l1.toNatClampNeg) = μ5 at C
      have h := h μ5 eμ5.symm
      obtain ⟨v6, ev6⟩ : ∃ z9 : Int32, z9 = l1 + 1 := ⟨_, rfl⟩
      have h := h v6 ev6
      refine lv_iinc (v := v6) (lv' := [(1, .int v6), (0, .ref (G.1 0))]) F.1 F.2.1 dX12_waterGoes_22 hl (k := 1) rfl (by rw [ev6]; rfl) (by decide) rfl (fun ls hl => ?_)
      refine lv_goto (tgt := 2) F.1 F.2.1 dX12_waterGoes_25 (by decide) ?_
      exact ih v6 μ5 H locs ls h C (lv_sub hl [1, 0] rfl)
set_option maxRecDepth 100000 in
set_option maxHeartbeats 4000000 in
theorem tX12_waterGoes_166 (l : Launch) (G : km_G) {p : Program} {e : Env} {s : State} {m : MethodId} {args : Array Value} {below : List Frame} {meth : Method} {c : Code} (F : CallFix p m c cX12_waterGoes 4 s args kt_ RX12) (hr : meth.sig.returnType = none) (hlocks : meth.locks = false) (Q : km_S → Prop) (k35 : Int32 → km_S → Prop) (hk35 : ∀ (l1 : Int32) (μ : km_S) (H : Heap) (locs : List Loc) (ls : Array Slot), k35 l1 μ → km_X G s H locs μ → lv_has ls 4 [(0, .ref (G.1 0)), (1, .int l1)] → W p l e { frames := 1, cells := 0, slots := 0, locals := 13 } s m args below meth c H locs 0 0 (MQ below (km_Qv G Q) args s 0 0 (km_A G)) (F0 m 35 ls [])) : ∀ (l1 : Int32) (μ : km_S) (H : Heap) (locs : List Loc) (ls : Array Slot), wX12_waterGoes_166 k35 Q l1 μ → km_X G s H locs μ → lv_has ls 4 [(0, .ref (G.1 0)), (1, .int l1)] → W p l e { frames := 1, cells := 0, slots := 0, locals := 13 } s m args below meth c H locs 0 0 (MQ below (km_Qv G Q) args s 0 0 (km_A G)) (F0 m 166 ls []) := by
  intro l1 μ H locs ls h C hl
  refine lv_aload_n F.1 F.2.1 dX12_waterGoes_166 rfl (lv_at hl 0 rfl) ?_
  refine kg_next F C dX12_waterGoes_167 ?_
  refine lv_iload_n F.1 F.2.1 dX12_waterGoes_170 rfl (lv_at hl 1 rfl) ?_
  obtain ⟨hn7, h⟩ := h
  refine kl_next F C hn7 dX12_waterGoes_171 ?_
  refine lv_iconst (v := (-1)) F.1 F.2.1 dX12_waterGoes_172 (by decide) ?_
  refine lv_icmp_ne (tgt := 195) F.1 F.2.1 dX12_waterGoes_173 (by decide) (fun c8 => ?_) (fun c8 => ?_)
  · have h := h.1 c8
    refine lv_aload_n F.1 F.2.1 dX12_waterGoes_195 rfl (lv_at hl 0 rfl) ?_
    refine kg_in F C dX12_waterGoes_196 ?_
    refine lv_aload_n F.1 F.2.1 dX12_waterGoes_199 rfl (lv_at hl 0 rfl) ?_
    refine kg_next F C dX12_waterGoes_200 ?_
    refine lv_iload_n F.1 F.2.1 dX12_waterGoes_203 rfl (lv_at hl 1 rfl) ?_
    obtain ⟨hn9, h⟩ := h
    refine kl_next F C hn9 dX12_waterGoes_204 ?_
    refine lv_dup2_11 F.1 F.2.1 dX12_waterGoes_205 rfl rfl ?_
    obtain ⟨hn10, h⟩ := h
    refine kl_in F C hn10 dX12_waterGoes_206 ?_
    refine lv_aload_n F.1 F.2.1 dX12_waterGoes_207 rfl (lv_at hl 0 rfl) ?_
    refine kg_out F C dX12_waterGoes_208 ?_
    refine lv_iload_n F.1 F.2.1 dX12_waterGoes_211 rfl (lv_at hl 1 rfl) ?_
    obtain ⟨hn11, h⟩ := h
    refine kl_out F C hn11 dX12_waterGoes_212 ?_
    refine lv_iadd (x := km_a μ 20 (km_a μ 13 l1.toNatClampNeg).toNatClampNeg) (y := km_a μ 19 l1.toNatClampNeg) F.1 F.2.1 dX12_waterGoes_213 ?_
    obtain ⟨hn12, h⟩ := h
    refine kq_in F C hn12 dX12_waterGoes_214 (fun H locs C => ?_)
    generalize eμ13 : km_sa μ 20 (km_a μ 13 l1.toNatClampNeg).toNatClampNeg ((km_a μ 20 (km_a μ 13 l1.toNatClampNeg).toNatClampNeg) + (km_a μ 19 l1.toNatClampNeg)) = μ13 at C
    have h := h μ13 eμ13.symm
    exact tX12_waterGoes_215 l G F hr hlocks Q k35 hk35 l1 μ13 H locs ls h C (lv_sub hl [0, 1] rfl)
  · have h := h.2 c8
    refine lv_aload_n F.1 F.2.1 dX12_waterGoes_176 rfl (lv_at hl 0 rfl) ?_
    refine lv_dup F.1 F.2.1 dX12_waterGoes_177 rfl ?_
    refine kg_toSea F C dX12_waterGoes_178 ?_
    refine lv_aload_n F.1 F.2.1 dX12_waterGoes_181 rfl (lv_at hl 0 rfl) ?_
    refine kg_out F C dX12_waterGoes_182 ?_
    refine lv_iload_n F.1 F.2.1 dX12_waterGoes_185 rfl (lv_at hl 1 rfl) ?_
    obtain ⟨hn14, h⟩ := h
    refine kl_out F C hn14 dX12_waterGoes_186 ?_
    refine lv_i2l F.1 F.2.1 dX12_waterGoes_187 rfl ?_
    refine lv_ladd (x := km_l μ 12) (y := (km_a μ 19 l1.toNatClampNeg).toInt64) F.1 F.2.1 dX12_waterGoes_188 ?_
    refine kp_toSea F C dX12_waterGoes_189 (fun H locs C => ?_)
    generalize eμ15 : km_sl μ 12 ((km_l μ 12) + ((km_a μ 19 l1.toNatClampNeg).toInt64)) = μ15 at C
    have h := h μ15 eμ15.symm
    refine lv_goto (tgt := 215) F.1 F.2.1 dX12_waterGoes_192 (by decide) ?_
    exact tX12_waterGoes_215 l G F hr hlocks Q k35 hk35 l1 μ15 H locs ls h C (lv_sub hl [0, 1] rfl)
set_option maxRecDepth 100000 in
set_option maxHeartbeats 4000000 in
theorem tX12_waterGoes_35 (l : Launch) (G : km_G) {p : Program} {e : Env} {s : State} {m : MethodId} {args : Array Value} {below : List Frame} {meth : Method} {c : Code} (F : CallFix p m c cX12_waterGoes 4 s args kt_ RX12) (hr : meth.sig.returnType = none) (hlocks : meth.locks = false) (Q : km_S → Prop) : ∀ (n : Nat) (l1 : Int32) (μ : km_S) (H : Heap) (locs : List Loc) (ls : Array Slot), wX12_waterGoes_35 Q n l1 μ → km_X G s H locs μ → lv_has ls 4 [(0, .ref (G.1 0)), (1, .int l1)] → W p l e { frames := 1, cells := 0, slots := 0, locals := 13 } s m args below meth c H locs 0 0 (MQ below (km_Qv G Q) args s 0 0 (km_A G)) (F0 m 35 ls []) := by
  intro n
  induction n with
  | zero => intro l1 μ H locs ls h; exact h.elim
  | succ n ih =>
    intro l1 μ H locs ls h C hl
    refine lv_iload_n F.1 F.2.1 dX12_waterGoes_35 rfl (lv_at hl 1 rfl) ?_
    refine lv_if_lt (tgt := 221) F.1 F.2.1 dX12_waterGoes_36 (by decide) (fun c16 => ?_) (fun c16 => ?_)
    · have h := h.1 c16
      exact km_vret F C hr hlocks h dX12_waterGoes_221
    · have h := h.2 c16
      refine lv_aload_n F.1 F.2.1 dX12_waterGoes_39 rfl (lv_at hl 0 rfl) ?_
      refine lv_dup F.1 F.2.1 dX12_waterGoes_40 rfl ?_
      refine kg_melted F C dX12_waterGoes_41 ?_
      refine lv_aload_n F.1 F.2.1 dX12_waterGoes_44 rfl (lv_at hl 0 rfl) ?_
      refine kg_melt F C dX12_waterGoes_45 ?_
      refine lv_iload_n F.1 F.2.1 dX12_waterGoes_48 rfl (lv_at hl 1 rfl) ?_
      obtain ⟨hn17, h⟩ := h
      refine kl_melt F C hn17 dX12_waterGoes_49 ?_
      refine lv_i2l F.1 F.2.1 dX12_waterGoes_50 rfl ?_
      refine lv_ladd (x := km_l μ 11) (y := (km_a μ 17 l1.toNatClampNeg).toInt64) F.1 F.2.1 dX12_waterGoes_51 ?_
      refine kp_melted F C dX12_waterGoes_52 (fun H locs C => ?_)
      generalize eμ18 : km_sl μ 11 ((km_l μ 11) + ((km_a μ 17 l1.toNatClampNeg).toInt64)) = μ18 at C
      have h := h μ18 eμ18.symm
      refine lv_aload_n F.1 F.2.1 dX12_waterGoes_55 rfl (lv_at hl 0 rfl) ?_
      refine kg_flow F C dX12_waterGoes_56 ?_
      refine lv_iload_n F.1 F.2.1 dX12_waterGoes_59 rfl (lv_at hl 1 rfl) ?_
      refine lv_aload_n F.1 F.2.1 dX12_waterGoes_60 rfl (lv_at hl 0 rfl) ?_
      refine kg_in F C dX12_waterGoes_61 ?_
      refine lv_iload_n F.1 F.2.1 dX12_waterGoes_64 rfl (lv_at hl 1 rfl) ?_
      obtain ⟨hn19, h⟩ := h
      refine kl_in F C hn19 dX12_waterGoes_65 ?_
      obtain ⟨hn20, h⟩ := h
      refine kq_flow F C hn20 dX12_waterGoes_66 (fun H locs C => ?_)
      generalize eμ21 : km_sa μ18 18 l1.toNatClampNeg (km_a μ18 20 l1.toNatClampNeg) = μ21 at C
      have h := h μ21 eμ21.symm
      refine lv_aload_n F.1 F.2.1 dX12_waterGoes_67 rfl (lv_at hl 0 rfl) ?_
      refine kg_out F C dX12_waterGoes_68 ?_
      refine lv_iload_n F.1 F.2.1 dX12_waterGoes_71 rfl (lv_at hl 1 rfl) ?_
      refine lv_aload_n F.1 F.2.1 dX12_waterGoes_72 rfl (lv_at hl 0 rfl) ?_
      refine kg_in F C dX12_waterGoes_73 ?_
      refine lv_iload_n F.1 F.2.1 dX12_waterGoes_76 rfl (lv_at hl 1 rfl) ?_
      obtain ⟨hn22, h⟩ := h
      refine kl_in F C hn22 dX12_waterGoes_77 ?_
      obtain ⟨hn23, h⟩ := h
      refine kq_out F C hn23 dX12_waterGoes_78 (fun H locs C => ?_)
      generalize eμ24 : km_sa μ21 19 l1.toNatClampNeg (km_a μ21 20 l1.toNatClampNeg) = μ24 at C
      have h := h μ24 eμ24.symm
      refine lv_aload_n F.1 F.2.1 dX12_waterGoes_79 rfl (lv_at hl 0 rfl) ?_
      refine kg_hasDam F C dX12_waterGoes_80 ?_
      refine lv_iload_n F.1 F.2.1 dX12_waterGoes_83 rfl (lv_at hl 1 rfl) ?_
      obtain ⟨hn25, h⟩ := h
      refine kl_hasDam F C hn25 dX12_waterGoes_84 ?_
      refine lv_if_eq (tgt := 166) F.1 F.2.1 dX12_waterGoes_85 (by decide) (fun c26 => ?_) (fun c26 => ?_)
      · have h := h.1 c26
        exact tX12_waterGoes_166 l G F hr hlocks Q (wX12_waterGoes_35 Q n) (fun l1 μ9 H locs ls h C hl => ih l1 μ9 H locs ls h C hl) l1 μ24 H locs ls h C (lv_sub hl [0, 1] rfl)
      · have h := h.2 c26
        refine lv_aload_n F.1 F.2.1 dX12_waterGoes_88 rfl (lv_at hl 0 rfl) ?_
        refine kg_store F C dX12_waterGoes_89 ?_
        refine lv_iload_n F.1 F.2.1 dX12_waterGoes_92 rfl (lv_at hl 1 rfl) ?_
        refine lv_dup2_11 F.1 F.2.1 dX12_waterGoes_93 rfl rfl ?_
        obtain ⟨hn27, h⟩ := h
        refine kl_store F C hn27 dX12_waterGoes_94 ?_
        refine lv_aload_n F.1 F.2.1 dX12_waterGoes_95 rfl (lv_at hl 0 rfl) ?_
        refine kg_in F C dX12_waterGoes_96 ?_
        refine lv_iload_n F.1 F.2.1 dX12_waterGoes_99 rfl (lv_at hl 1 rfl) ?_
        obtain ⟨hn28, h⟩ := h
        refine kl_in F C hn28 dX12_waterGoes_100 ?_
        refine lv_iadd (x := km_a μ24 25 l1.toNatClampNeg) (y := km_a μ24 20 l1.toNatClampNeg) F.1 F.2.1 dX12_waterGoes_101 ?_
        obtain ⟨hn29, h⟩ := h
        refine kq_store F C hn29 dX12_waterGoes_102 (fun H locs C => ?_)
        generalize eμ30 : km_sa μ24 25 l1.toNatClampNeg ((km_a μ24 25 l1.toNatClampNeg) + (km_a μ24 20 l1.toNatClampNeg)) = μ30 at C
        have h := h μ30 eμ30.symm
        refine lv_iconst (v := 0) F.1 F.2.1 dX12_waterGoes_103 (by decide) ?_
        refine lv_aload_n F.1 F.2.1 dX12_waterGoes_104 rfl (lv_at hl 0 rfl) ?_
        refine kg_store F C dX12_waterGoes_105 ?_
        refine lv_iload_n F.1 F.2.1 dX12_waterGoes_108 rfl (lv_at hl 1 rfl) ?_
        obtain ⟨hn31, h⟩ := h
        refine kl_store F C hn31 dX12_waterGoes_109 ?_
        refine lv_aload_n F.1 F.2.1 dX12_waterGoes_110 rfl (lv_at hl 0 rfl) ?_
        refine kg_damRoom F C dX12_waterGoes_111 ?_
        refine lv_iload_n F.1 F.2.1 dX12_waterGoes_114 rfl (lv_at hl 1 rfl) ?_
        obtain ⟨hn32, h⟩ := h
        refine kl_damRoom F C hn32 dX12_waterGoes_115 ?_
        refine lv_isub (x := km_a μ30 25 l1.toNatClampNeg) (y := km_a μ30 24 l1.toNatClampNeg) F.1 F.2.1 dX12_waterGoes_116 ?_
        refine km_max F (hsz := hl.1) (Nat.le_of_ble_eq_true rfl) (Nat.le_of_ble_eq_true rfl) dX12_waterGoes_117 ?_
        refine lv_topi (fun v33 ev33 => ?_)
        have h := h v33 ev33
        refine lv_istore_n (lv' := [(2, .int v33), (0, .ref (G.1 0)), (1, .int l1)]) F.1 F.2.1 dX12_waterGoes_120 rfl hl (by decide) rfl (fun ls hl => ?_)
        refine lv_aload_n F.1 F.2.1 dX12_waterGoes_121 rfl (lv_at hl 1 rfl) ?_
        refine kg_store F C dX12_waterGoes_122 ?_
        refine lv_iload_n F.1 F.2.1 dX12_waterGoes_125 rfl (lv_at hl 2 rfl) ?_
        refine lv_dup2_11 F.1 F.2.1 dX12_waterGoes_126 rfl rfl ?_
        obtain ⟨hn34, h⟩ := h
        refine kl_store F C hn34 dX12_waterGoes_127 ?_
        refine lv_iload_n F.1 F.2.1 dX12_waterGoes_128 rfl (lv_at hl 0 rfl) ?_
        refine lv_isub (x := km_a μ30 25 l1.toNatClampNeg) (y := v33) F.1 F.2.1 dX12_waterGoes_129 ?_
        obtain ⟨hn35, h⟩ := h
        refine kq_store F C hn35 dX12_waterGoes_130 (fun H locs C => ?_)
        generalize eμ36 : km_sa μ30 25 l1.toNatClampNeg ((km_a μ30 25 l1.toNatClampNeg) - v33) = μ36 at C
        have h := h μ36 eμ36.symm
        refine lv_aload_n F.1 F.2.1 dX12_waterGoes_131 rfl (lv_at hl 1 rfl) ?_
        refine kg_gate F C dX12_waterGoes_132 ?_
        refine lv_iload_n F.1 F.2.1 dX12_waterGoes_135 rfl (lv_at hl 2 rfl) ?_
        obtain ⟨hn37, h⟩ := h
        refine kl_gate F C hn37 dX12_waterGoes_136 ?_
        refine lv_aload_n F.1 F.2.1 dX12_waterGoes_137 rfl (lv_at hl 1 rfl) ?_
        refine kg_store F C dX12_waterGoes_138 ?_
        refine lv_iload_n F.1 F.2.1 dX12_waterGoes_141 rfl (lv_at hl 2 rfl) ?_
        obtain ⟨hn38, h⟩ := h
        refine kl_store F C hn38 dX12_waterGoes_142 ?_
        refine km_min F (hsz := hl.1) (Nat.le_of_ble_eq_true rfl) (Nat.le_of_ble_eq_true rfl) dX12_waterGoes_143 ?_
        refine lv_topi (fun v39 ev39 => ?_)
        have h := h v39 ev39
        refine lv_istore_n (lv' := [(3, .int v39), (2, .int v33), (0, .ref (G.1 0)), (1, .int l1)]) F.1 F.2.1 dX12_waterGoes_146 rfl hl (by decide) rfl (fun ls hl => ?_)
        refine lv_aload_n F.1 F.2.1 dX12_waterGoes_147 rfl (lv_at hl 2 rfl) ?_
        refine kg_store F C dX12_waterGoes_148 ?_
        refine lv_iload_n F.1 F.2.1 dX12_waterGoes_151 rfl (lv_at hl 3 rfl) ?_
        refine lv_dup2_11 F.1 F.2.1 dX12_waterGoes_152 rfl rfl ?_
        obtain ⟨hn40, h⟩ := h
        refine kl_store F C hn40 dX12_waterGoes_153 ?_
        refine lv_iload_n F.1 F.2.1 dX12_waterGoes_154 rfl (lv_at hl 0 rfl) ?_
        refine lv_isub (x := km_a μ36 25 l1.toNatClampNeg) (y := v39) F.1 F.2.1 dX12_waterGoes_155 ?_
        obtain ⟨hn41, h⟩ := h
        refine kq_store F C hn41 dX12_waterGoes_156 (fun H locs C => ?_)
        generalize eμ42 : km_sa μ36 25 l1.toNatClampNeg ((km_a μ36 25 l1.toNatClampNeg) - v39) = μ42 at C
        have h := h μ42 eμ42.symm
        refine lv_aload_n F.1 F.2.1 dX12_waterGoes_157 rfl (lv_at hl 2 rfl) ?_
        refine kg_out F C dX12_waterGoes_158 ?_
        refine lv_iload_n F.1 F.2.1 dX12_waterGoes_161 rfl (lv_at hl 3 rfl) ?_
        refine lv_iload_n F.1 F.2.1 dX12_waterGoes_162 rfl (lv_at hl 0 rfl) ?_
        refine lv_iload_n F.1 F.2.1 dX12_waterGoes_163 rfl (lv_at hl 1 rfl) ?_
        refine lv_iadd (x := v39) (y := v33) F.1 F.2.1 dX12_waterGoes_164 ?_
        obtain ⟨hn43, h⟩ := h
        refine kq_out F C hn43 dX12_waterGoes_165 (fun H locs C => ?_)
        generalize eμ44 : km_sa μ42 19 l1.toNatClampNeg (v39 + v33) = μ44 at C
        have h := h μ44 eμ44.symm
        exact tX12_waterGoes_166 l G F hr hlocks Q (wX12_waterGoes_35 Q n) (fun l1 μ9 H locs ls h C hl => ih l1 μ9 H locs ls h C hl) l1 μ44 H locs ls h C (lv_sub hl [2, 3] rfl)
set_option maxRecDepth 100000 in
set_option maxHeartbeats 4000000 in
theorem tX12_waterGoes_28 (l : Launch) (G : km_G) {p : Program} {e : Env} {s : State} {m : MethodId} {args : Array Value} {below : List Frame} {meth : Method} {c : Code} (F : CallFix p m c cX12_waterGoes 4 s args kt_ RX12) (hr : meth.sig.returnType = none) (hlocks : meth.locks = false) (Q : km_S → Prop) : ∀ (μ : km_S) (H : Heap) (locs : List Loc) (ls : Array Slot), wX12_waterGoes_28 Q μ → km_X G s H locs μ → lv_has ls 4 [(0, .ref (G.1 0))] → W p l e { frames := 1, cells := 0, slots := 0, locals := 13 } s m args below meth c H locs 0 0 (MQ below (km_Qv G Q) args s 0 0 (km_A G)) (F0 m 28 ls []) := by
  intro  μ H locs ls h C hl
  refine lv_aload_n F.1 F.2.1 dX12_waterGoes_28 rfl (lv_at hl 0 rfl) ?_
  refine kg_reaches F C dX12_waterGoes_29 ?_
  refine lv_iconst (v := 1) F.1 F.2.1 dX12_waterGoes_32 (by decide) ?_
  refine lv_isub (x := km_i μ 3) (y := 1) F.1 F.2.1 dX12_waterGoes_33 ?_
  refine lv_topi (fun v45 ev45 => ?_)
  have h := h v45 ev45
  refine lv_istore_n (lv' := [(1, .int v45), (0, .ref (G.1 0))]) F.1 F.2.1 dX12_waterGoes_34 rfl hl (by decide) rfl (fun ls hl => ?_)
  obtain ⟨n46, h⟩ := h
  exact tX12_waterGoes_35 l G F hr hlocks Q n46 v45 μ H locs ls h C (lv_sub hl [1, 0] rfl)
set_option maxRecDepth 100000 in
set_option maxHeartbeats 4000000 in
theorem hc_X12_waterGoes (l : Launch) (G : km_G) (μ : km_S) (Q : km_S → Prop) (h : wX12_waterGoes μ Q) : km_M l G yX12_waterGoes cX12_waterGoes 4 none (1) (13) [.ref (G.1 0)] μ (km_Qv G Q) := by
  refine km_enter (by decide) rfl (Nat.le_of_ble_eq_true rfl) ?_
  intro p e s m below meth c ls F hr hlocks C hl
  have hl : lv_has ls 4 [(0, .ref (G.1 0))] := hl
  obtain ⟨H, eH⟩ : ∃ z9, z9 = s.heap := ⟨_, rfl⟩
  obtain ⟨locs, eL⟩ : ∃ z9 : List Loc, z9 = [] := ⟨_, rfl⟩
  rw [← eH, ← eL] at C
  rw [← eH, ← eL]
  refine lv_iconst (v := 0) F.1 F.2.1 dX12_waterGoes_0 (by decide) ?_
  refine lv_istore_n (lv' := [(1, .int 0), (0, .ref (G.1 0))]) F.1 F.2.1 dX12_waterGoes_1 rfl hl (by decide) rfl (fun ls hl => ?_)
  obtain ⟨n47, h⟩ := h
  exact tX12_waterGoes_2 l G F hr hlocks Q (wX12_waterGoes_28 Q) (tX12_waterGoes_28 l G F hr hlocks Q) n47 0 μ H locs ls h C (lv_sub hl [1, 0] rfl)
section
variable {p : Program} {l : Launch} {e : Env} {R : Room} {s : State} {m : MethodId} {args : Array Value} {below : List Frame} {meth : Method} {c : Code} {H : Heap} {locs : List Loc} {Q : State → Prop}
variable {cc : ByteArray} {pc nL : Nat} {ls : Array Slot} {rest : List Value} {G : km_G} {μ : km_S}
theorem kc_X12_waterGoes (F : CallFix p m c cc nL s args kt_ RX12) (C : km_X G s H locs μ) {P : km_S → Prop} (h : wX12_waterGoes μ P) (h1 : (1) + 1 ≤ R.frames) (h2 : 8 + (4 + 11) + (13) ≤ R.locals) (hsz : ls.size = nL) (hW : (rest.map fun v => v.category).sum ≤ 8) (hdg : decode cc pc = .ok (.invokevirtual 363, 3)) (kk : ∀ (μ' : km_S) (H1 : Heap) (locs1 : List Loc), P μ' → km_X G s H1 locs1 μ' → W p l e R s m args below meth c H1 locs1 0 0 Q (F0 m (pc + 3) ls rest)) : W p l e R s m args below meth c H locs 0 0 Q (F0 m pc ls (.ref (G.1 0) :: rest)) :=
  km_cVv (n := 0) (As := []) F C (hc_X12_waterGoes l G μ P h) (kt_V tw_224 tw_225 tw_226 tw_151 tw_227) (by decide +kernel) ⟨h1, h2⟩ rfl hsz hW hdg kk
end
theorem dX12_leave_0 : decode cX12_leave 0 = .ok (.aload_n 0, 1) := by decide +kernel
theorem dX12_leave_1 : decode cX12_leave 1 = .ok (.getfield 62, 3) := by decide +kernel
theorem dX12_leave_4 : decode cX12_leave 4 = .ok (.iload_n 2, 1) := by decide +kernel
theorem dX12_leave_5 : decode cX12_leave 5 = .ok (.baload, 1) := by decide +kernel
theorem dX12_leave_6 : decode cX12_leave 6 = .ok (.ifCond .eq 107, 3) := by decide +kernel
theorem dX12_leave_9 : decode cX12_leave 9 = .ok (.aload_n 0, 1) := by decide +kernel
theorem dX12_leave_10 : decode cX12_leave 10 = .ok (.getfield 77, 3) := by decide +kernel
theorem dX12_leave_13 : decode cX12_leave 13 = .ok (.iload_n 2, 1) := by decide +kernel
theorem dX12_leave_14 : decode cX12_leave 14 = .ok (.iaload, 1) := by decide +kernel
theorem dX12_leave_15 : decode cX12_leave 15 = .ok (.aload_n 0, 1) := by decide +kernel
theorem dX12_leave_16 : decode cX12_leave 16 = .ok (.getfield 101, 3) := by decide +kernel
theorem dX12_leave_19 : decode cX12_leave 19 = .ok (.iload_n 1, 1) := by decide +kernel
theorem dX12_leave_20 : decode cX12_leave 20 = .ok (.iaload, 1) := by decide +kernel
theorem dX12_leave_21 : decode cX12_leave 21 = .ok (.ishr, 1) := by decide +kernel
theorem dX12_leave_22 : decode cX12_leave 22 = .ok (.iconst 1, 1) := by decide +kernel
theorem dX12_leave_23 : decode cX12_leave 23 = .ok (.iand, 1) := by decide +kernel
theorem dX12_leave_24 : decode cX12_leave 24 = .ok (.iconst 1, 1) := by decide +kernel
theorem dX12_leave_25 : decode cX12_leave 25 = .ok (.if_icmp .ne 88, 3) := by decide +kernel
theorem dX12_leave_28 : decode cX12_leave 28 = .ok (.aload_n 0, 1) := by decide +kernel
theorem dX12_leave_29 : decode cX12_leave 29 = .ok (.getfield 83, 3) := by decide +kernel
theorem dX12_leave_32 : decode cX12_leave 32 = .ok (.iload_n 2, 1) := by decide +kernel
theorem dX12_leave_33 : decode cX12_leave 33 = .ok (.iaload, 1) := by decide +kernel
theorem dX12_leave_34 : decode cX12_leave 34 = .ok (.aload_n 0, 1) := by decide +kernel
theorem dX12_leave_35 : decode cX12_leave 35 = .ok (.getfield 80, 3) := by decide +kernel
theorem dX12_leave_38 : decode cX12_leave 38 = .ok (.iload_n 2, 1) := by decide +kernel
theorem dX12_leave_39 : decode cX12_leave 39 = .ok (.iaload, 1) := by decide +kernel
theorem dX12_leave_40 : decode cX12_leave 40 = .ok (.if_icmp .lt 4, 3) := by decide +kernel
theorem dX12_leave_43 : decode cX12_leave 43 = .ok (.return_, 1) := by decide +kernel
theorem dX12_leave_44 : decode cX12_leave 44 = .ok (.aload_n 0, 1) := by decide +kernel
theorem dX12_leave_45 : decode cX12_leave 45 = .ok (.iload_n 1, 1) := by decide +kernel
theorem dX12_leave_46 : decode cX12_leave 46 = .ok (.invokevirtual 344, 3) := by decide +kernel
theorem dX12_leave_49 : decode cX12_leave 49 = .ok (.aload_n 0, 1) := by decide +kernel
theorem dX12_leave_50 : decode cX12_leave 50 = .ok (.getfield 86, 3) := by decide +kernel
theorem dX12_leave_53 : decode cX12_leave 53 = .ok (.bipush 100, 2) := by decide +kernel
theorem dX12_leave_55 : decode cX12_leave 55 = .ok (.iload_n 2, 1) := by decide +kernel
theorem dX12_leave_56 : decode cX12_leave 56 = .ok (.imul, 1) := by decide +kernel
theorem dX12_leave_57 : decode cX12_leave 57 = .ok (.aload_n 0, 1) := by decide +kernel
theorem dX12_leave_58 : decode cX12_leave 58 = .ok (.getfield 83, 3) := by decide +kernel
theorem dX12_leave_61 : decode cX12_leave 61 = .ok (.iload_n 2, 1) := by decide +kernel
theorem dX12_leave_62 : decode cX12_leave 62 = .ok (.iaload, 1) := by decide +kernel
theorem dX12_leave_63 : decode cX12_leave 63 = .ok (.iadd, 1) := by decide +kernel
theorem dX12_leave_64 : decode cX12_leave 64 = .ok (.iload_n 1, 1) := by decide +kernel
theorem dX12_leave_65 : decode cX12_leave 65 = .ok (.iastore, 1) := by decide +kernel
theorem dX12_leave_66 : decode cX12_leave 66 = .ok (.aload_n 0, 1) := by decide +kernel
theorem dX12_leave_67 : decode cX12_leave 67 = .ok (.getfield 83, 3) := by decide +kernel
theorem dX12_leave_70 : decode cX12_leave 70 = .ok (.iload_n 2, 1) := by decide +kernel
theorem dX12_leave_71 : decode cX12_leave 71 = .ok (.dup2, 1) := by decide +kernel
theorem dX12_leave_72 : decode cX12_leave 72 = .ok (.iaload, 1) := by decide +kernel
theorem dX12_leave_73 : decode cX12_leave 73 = .ok (.iconst 1, 1) := by decide +kernel
theorem dX12_leave_74 : decode cX12_leave 74 = .ok (.iadd, 1) := by decide +kernel
theorem dX12_leave_75 : decode cX12_leave 75 = .ok (.iastore, 1) := by decide +kernel
theorem dX12_leave_76 : decode cX12_leave 76 = .ok (.aload_n 0, 1) := by decide +kernel
theorem dX12_leave_77 : decode cX12_leave 77 = .ok (.getfield 107, 3) := by decide +kernel
theorem dX12_leave_80 : decode cX12_leave 80 = .ok (.iload_n 1, 1) := by decide +kernel
theorem dX12_leave_81 : decode cX12_leave 81 = .ok (.iconst 2, 1) := by decide +kernel
theorem dX12_leave_82 : decode cX12_leave 82 = .ok (.iastore, 1) := by decide +kernel
theorem dX12_leave_83 : decode cX12_leave 83 = .ok (.aload_n 0, 1) := by decide +kernel
theorem dX12_leave_84 : decode cX12_leave 84 = .ok (.getfield 113, 3) := by decide +kernel
theorem dX12_leave_87 : decode cX12_leave 87 = .ok (.iload_n 1, 1) := by decide +kernel
theorem dX12_leave_88 : decode cX12_leave 88 = .ok (.iconst (-1), 1) := by decide +kernel
theorem dX12_leave_89 : decode cX12_leave 89 = .ok (.iastore, 1) := by decide +kernel
theorem dX12_leave_90 : decode cX12_leave 90 = .ok (.aload_n 0, 1) := by decide +kernel
theorem dX12_leave_91 : decode cX12_leave 91 = .ok (.getfield 145, 3) := by decide +kernel
theorem dX12_leave_94 : decode cX12_leave 94 = .ok (.aload_n 0, 1) := by decide +kernel
theorem dX12_leave_95 : decode cX12_leave 95 = .ok (.getfield 101, 3) := by decide +kernel
theorem dX12_leave_98 : decode cX12_leave 98 = .ok (.iload_n 1, 1) := by decide +kernel
theorem dX12_leave_99 : decode cX12_leave 99 = .ok (.iaload, 1) := by decide +kernel
theorem dX12_leave_100 : decode cX12_leave 100 = .ok (.dup2, 1) := by decide +kernel
theorem dX12_leave_101 : decode cX12_leave 101 = .ok (.laload, 1) := by decide +kernel
theorem dX12_leave_102 : decode cX12_leave 102 = .ok (.aload_n 0, 1) := by decide +kernel
theorem dX12_leave_103 : decode cX12_leave 103 = .ok (.iconst 1, 1) := by decide +kernel
theorem dX12_leave_104 : decode cX12_leave 104 = .ok (.iload_n 1, 1) := by decide +kernel
theorem dX12_leave_105 : decode cX12_leave 105 = .ok (.iload_n 2, 1) := by decide +kernel
theorem dX12_leave_106 : decode cX12_leave 106 = .ok (.invokevirtual 318, 3) := by decide +kernel
theorem dX12_leave_109 : decode cX12_leave 109 = .ok (.i2l, 1) := by decide +kernel
theorem dX12_leave_110 : decode cX12_leave 110 = .ok (.ladd, 1) := by decide +kernel
theorem dX12_leave_111 : decode cX12_leave 111 = .ok (.lastore, 1) := by decide +kernel
theorem dX12_leave_112 : decode cX12_leave 112 = .ok (.return_, 1) := by decide +kernel
theorem dX12_leave_113 : decode cX12_leave 113 = .ok (.aload_n 0, 1) := by decide +kernel
theorem dX12_leave_114 : decode cX12_leave 114 = .ok (.getfield 58, 3) := by decide +kernel
theorem dX12_leave_117 : decode cX12_leave 117 = .ok (.iload_n 2, 1) := by decide +kernel
theorem dX12_leave_118 : decode cX12_leave 118 = .ok (.baload, 1) := by decide +kernel
theorem dX12_leave_119 : decode cX12_leave 119 = .ok (.ifCond .eq 15, 3) := by decide +kernel
theorem dX12_leave_122 : decode cX12_leave 122 = .ok (.aload_n 0, 1) := by decide +kernel
theorem dX12_leave_123 : decode cX12_leave 123 = .ok (.getfield 52, 3) := by decide +kernel
theorem dX12_leave_126 : decode cX12_leave 126 = .ok (.iload_n 2, 1) := by decide +kernel
theorem dX12_leave_127 : decode cX12_leave 127 = .ok (.iaload, 1) := by decide +kernel
theorem dX12_leave_128 : decode cX12_leave 128 = .ok (.bipush 50, 2) := by decide +kernel
theorem dX12_leave_130 : decode cX12_leave 130 = .ok (.if_icmp .ge 4, 3) := by decide +kernel
theorem dX12_leave_133 : decode cX12_leave 133 = .ok (.return_, 1) := by decide +kernel
theorem dX12_leave_134 : decode cX12_leave 134 = .ok (.aload_n 0, 1) := by decide +kernel
theorem dX12_leave_135 : decode cX12_leave 135 = .ok (.getfield 33, 3) := by decide +kernel
theorem dX12_leave_138 : decode cX12_leave 138 = .ok (.iload_n 2, 1) := by decide +kernel
theorem dX12_leave_139 : decode cX12_leave 139 = .ok (.iaload, 1) := by decide +kernel
theorem dX12_leave_140 : decode cX12_leave 140 = .ok (.iconst (-1), 1) := by decide +kernel
theorem dX12_leave_141 : decode cX12_leave 141 = .ok (.if_icmp .ne 32, 3) := by decide +kernel
theorem dX12_leave_144 : decode cX12_leave 144 = .ok (.aload_n 0, 1) := by decide +kernel
theorem dX12_leave_145 : decode cX12_leave 145 = .ok (.iload_n 1, 1) := by decide +kernel
theorem dX12_leave_146 : decode cX12_leave 146 = .ok (.invokevirtual 344, 3) := by decide +kernel
theorem dX12_leave_149 : decode cX12_leave 149 = .ok (.aload_n 0, 1) := by decide +kernel
theorem dX12_leave_150 : decode cX12_leave 150 = .ok (.getfield 107, 3) := by decide +kernel
theorem dX12_leave_153 : decode cX12_leave 153 = .ok (.iload_n 1, 1) := by decide +kernel
theorem dX12_leave_154 : decode cX12_leave 154 = .ok (.iconst 4, 1) := by decide +kernel
theorem dX12_leave_155 : decode cX12_leave 155 = .ok (.iastore, 1) := by decide +kernel
theorem dX12_leave_156 : decode cX12_leave 156 = .ok (.aload_n 0, 1) := by decide +kernel
theorem dX12_leave_157 : decode cX12_leave 157 = .ok (.getfield 110, 3) := by decide +kernel
theorem dX12_leave_160 : decode cX12_leave 160 = .ok (.iload_n 1, 1) := by decide +kernel
theorem dX12_leave_161 : decode cX12_leave 161 = .ok (.iconst (-1), 1) := by decide +kernel
theorem dX12_leave_162 : decode cX12_leave 162 = .ok (.iastore, 1) := by decide +kernel
theorem dX12_leave_163 : decode cX12_leave 163 = .ok (.aload_n 0, 1) := by decide +kernel
theorem dX12_leave_164 : decode cX12_leave 164 = .ok (.getfield 113, 3) := by decide +kernel
theorem dX12_leave_167 : decode cX12_leave 167 = .ok (.iload_n 1, 1) := by decide +kernel
theorem dX12_leave_168 : decode cX12_leave 168 = .ok (.iconst (-1), 1) := by decide +kernel
theorem dX12_leave_169 : decode cX12_leave 169 = .ok (.iastore, 1) := by decide +kernel
theorem dX12_leave_170 : decode cX12_leave 170 = .ok (.goto 34, 3) := by decide +kernel
theorem dX12_leave_173 : decode cX12_leave 173 = .ok (.aload_n 0, 1) := by decide +kernel
theorem dX12_leave_174 : decode cX12_leave 174 = .ok (.aload_n 0, 1) := by decide +kernel
theorem dX12_leave_175 : decode cX12_leave 175 = .ok (.getfield 33, 3) := by decide +kernel
theorem dX12_leave_178 : decode cX12_leave 178 = .ok (.iload_n 2, 1) := by decide +kernel
theorem dX12_leave_179 : decode cX12_leave 179 = .ok (.iaload, 1) := by decide +kernel
theorem dX12_leave_180 : decode cX12_leave 180 = .ok (.iconst 0, 1) := by decide +kernel
theorem dX12_leave_181 : decode cX12_leave 181 = .ok (.invokevirtual 322, 3) := by decide +kernel
theorem dX12_leave_184 : decode cX12_leave 184 = .ok (.ifCond .eq 20, 3) := by decide +kernel
theorem dX12_leave_187 : decode cX12_leave 187 = .ok (.aload_n 0, 1) := by decide +kernel
theorem dX12_leave_188 : decode cX12_leave 188 = .ok (.iload_n 1, 1) := by decide +kernel
theorem dX12_leave_189 : decode cX12_leave 189 = .ok (.invokevirtual 344, 3) := by decide +kernel
theorem dX12_leave_192 : decode cX12_leave 192 = .ok (.aload_n 0, 1) := by decide +kernel
theorem dX12_leave_193 : decode cX12_leave 193 = .ok (.iload_n 1, 1) := by decide +kernel
theorem dX12_leave_194 : decode cX12_leave 194 = .ok (.aload_n 0, 1) := by decide +kernel
theorem dX12_leave_195 : decode cX12_leave 195 = .ok (.getfield 33, 3) := by decide +kernel
theorem dX12_leave_198 : decode cX12_leave 198 = .ok (.iload_n 2, 1) := by decide +kernel
theorem dX12_leave_199 : decode cX12_leave 199 = .ok (.iaload, 1) := by decide +kernel
theorem dX12_leave_200 : decode cX12_leave 200 = .ok (.iconst 0, 1) := by decide +kernel
theorem dX12_leave_201 : decode cX12_leave 201 = .ok (.invokevirtual 325, 3) := by decide +kernel
theorem dX12_leave_204 : decode cX12_leave 204 = .ok (.return_, 1) := by decide +kernel
def wX12_leave_134 (Q : km_S → Prop) (l1 : Int32) (l2 : Int32) (μ : km_S) : Prop := vp_in l2 10 ∧ ((¬ (km_a μ 13 l2.toNatClampNeg) = (-1) → vp_in l2 10 ∧ wX12_isOpen (km_a μ 13 l2.toNatClampNeg) 0 μ fun r5 μ4 => ((r5 = 0 → Q μ4) ∧
    (¬ (r5 = 0) → wX12_lift l1 μ4 fun μ7 => vp_in l2 10 ∧ wX12_lay l1 (km_a μ7 13 l2.toNatClampNeg) 0 μ7 fun μ9 => Q μ9))) ∧
  ((km_a μ 13 l2.toNatClampNeg) = (-1) → wX12_lift l1 μ fun μ10 => vp_in l1 400 ∧ ∀ μ12, μ12 = km_sa μ10 38 l1.toNatClampNeg 4 → vp_in l1 400 ∧ ∀ μ14, μ14 = km_sa μ12 39 l1.toNatClampNeg (-1) → vp_in l1 400 ∧ ∀ μ16, μ16 = km_sa μ14 40 l1.toNatClampNeg (-1) → Q μ16))
def wX12_leave_113 (Q : km_S → Prop) (l1 : Int32) (l2 : Int32) (μ : km_S) : Prop := vp_in l2 10 ∧ (((km_a μ 21 l2.toNatClampNeg) = 0 → wX12_leave_134 Q l1 l2 μ) ∧
  (¬ ((km_a μ 21 l2.toNatClampNeg) = 0) → vp_in l2 10 ∧ ((50 ≤ (km_a μ 19 l2.toNatClampNeg) → wX12_leave_134 Q l1 l2 μ) ∧
    (¬ (50 ≤ (km_a μ 19 l2.toNatClampNeg)) → Q μ))))
def wX12_leave (l1 : Int32) (l2 : Int32) (μ : km_S) (Q : km_S → Prop) : Prop := vp_in l2 10 ∧ (((km_a μ 22 l2.toNatClampNeg) = 0 → wX12_leave_113 Q l1 l2 μ) ∧
  (¬ ((km_a μ 22 l2.toNatClampNeg) = 0) → vp_in l2 10 ∧ vp_in l1 400 ∧ ((¬ (((km_a μ 27 l2.toNatClampNeg) >>> ((km_a μ 35 l1.toNatClampNeg) &&& 31)) &&& 1) = 1 → wX12_leave_113 Q l1 l2 μ) ∧
    ((((km_a μ 27 l2.toNatClampNeg) >>> ((km_a μ 35 l1.toNatClampNeg) &&& 31)) &&& 1) = 1 → vp_in l2 10 ∧ vp_in l2 10 ∧ (((km_a μ 29 l2.toNatClampNeg) < (km_a μ 28 l2.toNatClampNeg) → wX12_lift l1 μ fun μ29 => vp_in l2 10 ∧ vp_in ((100 * l2) + (km_a μ29 29 l2.toNatClampNeg)) 1000 ∧ ∀ μ32, μ32 = km_sa μ29 30 ((100 * l2) + (km_a μ29 29 l2.toNatClampNeg)).toNatClampNeg l1 → vp_in l2 10 ∧ vp_in l2 10 ∧ ∀ μ35, μ35 = km_sa μ32 29 l2.toNatClampNeg ((km_a μ32 29 l2.toNatClampNeg) + 1) → vp_in l1 400 ∧ ∀ μ37, μ37 = km_sa μ35 38 l1.toNatClampNeg 2 → vp_in l1 400 ∧ ∀ μ39, μ39 = km_sa μ37 40 l1.toNatClampNeg (-1) → vp_in l1 400 ∧ vp_in (km_a μ39 35 l1.toNatClampNeg) 16 ∧ wX12_ruled 1 l1 l2 μ39 fun r43 μ42 => vp_in (km_a μ39 35 l1.toNatClampNeg) 16 ∧ ∀ μ45, μ45 = km_sp μ42 (km_a μ39 35 l1.toNatClampNeg).toNatClampNeg ((km_p μ39 (km_a μ39 35 l1.toNatClampNeg).toNatClampNeg) + r43.toInt64) → Q μ45) ∧
      (¬ ((km_a μ 29 l2.toNatClampNeg) < (km_a μ 28 l2.toNatClampNeg)) → Q μ))))))
set_option maxRecDepth 100000 in
set_option maxHeartbeats 4000000 in
theorem tX12_leave_134 (l : Launch) (G : km_G) {p : Program} {e : Env} {s : State} {m : MethodId} {args : Array Value} {below : List Frame} {meth : Method} {c : Code} (F : CallFix p m c cX12_leave 3 s args kt_ RX12) (hr : meth.sig.returnType = none) (hlocks : meth.locks = false) (Q : km_S → Prop) : ∀ (l1 : Int32) (l2 : Int32) (μ : km_S) (H : Heap) (locs : List Loc) (ls : Array Slot), wX12_leave_134 Q l1 l2 μ → km_X G s H locs μ → lv_has ls 3 [(0, .ref (G.1 0)), (1, .int l1), (2, .int l2)] → W p l e { frames := 3, cells := 0, slots := 0, locals := 77 } s m args below meth c H locs 0 0 (MQ below (km_Qv G Q) args s 0 0 (km_A G)) (F0 m 134 ls []) := by
  intro l1 l2 μ H locs ls h C hl
  refine lv_aload_n F.1 F.2.1 dX12_leave_134 rfl (lv_at hl 0 rfl) ?_
  refine kg_next F C dX12_leave_135 ?_
  refine lv_iload_n F.1 F.2.1 dX12_leave_138 rfl (lv_at hl 2 rfl) ?_
  obtain ⟨hn1, h⟩ := h
  refine kl_next F C hn1 dX12_leave_139 ?_
  refine lv_iconst (v := (-1)) F.1 F.2.1 dX12_leave_140 (by decide) ?_
  refine lv_icmp_ne (tgt := 173) F.1 F.2.1 dX12_leave_141 (by decide) (fun c2 => ?_) (fun c2 => ?_)
  · have h := h.1 c2
    refine lv_aload_n F.1 F.2.1 dX12_leave_173 rfl (lv_at hl 0 rfl) ?_
    refine lv_aload_n F.1 F.2.1 dX12_leave_174 rfl (lv_at hl 0 rfl) ?_
    refine kg_next F C dX12_leave_175 ?_
    refine lv_iload_n F.1 F.2.1 dX12_leave_178 rfl (lv_at hl 2 rfl) ?_
    obtain ⟨hn3, h⟩ := h
    refine kl_next F C hn3 dX12_leave_179 ?_
    refine lv_iconst (v := 0) F.1 F.2.1 dX12_leave_180 (by decide) ?_
    refine kc_X12_isOpen F C h (Nat.le_of_ble_eq_true rfl) (Nat.le_of_ble_eq_true rfl) hl.1 (by simp [Value.category]) dX12_leave_181 (fun r5 μ4 H locs h C => ?_)
    refine lv_if_eq (tgt := 204) F.1 F.2.1 dX12_leave_184 (by decide) (fun c6 => ?_) (fun c6 => ?_)
    · have h := h.1 c6
      exact km_vret F C hr hlocks h dX12_leave_204
    · have h := h.2 c6
      refine lv_aload_n F.1 F.2.1 dX12_leave_187 rfl (lv_at hl 0 rfl) ?_
      refine lv_iload_n F.1 F.2.1 dX12_leave_188 rfl (lv_at hl 1 rfl) ?_
      refine kc_X12_lift F C h (Nat.le_of_ble_eq_true rfl) (Nat.le_of_ble_eq_true rfl) hl.1 (by simp [Value.category]) dX12_leave_189 (fun μ7 H locs h C => ?_)
      refine lv_aload_n F.1 F.2.1 dX12_leave_192 rfl (lv_at hl 0 rfl) ?_
      refine lv_iload_n F.1 F.2.1 dX12_leave_193 rfl (lv_at hl 1 rfl) ?_
      refine lv_aload_n F.1 F.2.1 dX12_leave_194 rfl (lv_at hl 0 rfl) ?_
      refine kg_next F C dX12_leave_195 ?_
      refine lv_iload_n F.1 F.2.1 dX12_leave_198 rfl (lv_at hl 2 rfl) ?_
      obtain ⟨hn8, h⟩ := h
      refine kl_next F C hn8 dX12_leave_199 ?_
      refine lv_iconst (v := 0) F.1 F.2.1 dX12_leave_200 (by decide) ?_
      refine kc_X12_lay F C h (Nat.le_of_ble_eq_true rfl) (Nat.le_of_ble_eq_true rfl) hl.1 (by simp [Value.category]) dX12_leave_201 (fun μ9 H locs h C => ?_)
      exact km_vret F C hr hlocks h dX12_leave_204
  · have h := h.2 c2
    refine lv_aload_n F.1 F.2.1 dX12_leave_144 rfl (lv_at hl 0 rfl) ?_
    refine lv_iload_n F.1 F.2.1 dX12_leave_145 rfl (lv_at hl 1 rfl) ?_
    refine kc_X12_lift F C h (Nat.le_of_ble_eq_true rfl) (Nat.le_of_ble_eq_true rfl) hl.1 (by simp [Value.category]) dX12_leave_146 (fun μ10 H locs h C => ?_)
    refine lv_aload_n F.1 F.2.1 dX12_leave_149 rfl (lv_at hl 0 rfl) ?_
    refine kg_place F C dX12_leave_150 ?_
    refine lv_iload_n F.1 F.2.1 dX12_leave_153 rfl (lv_at hl 1 rfl) ?_
    refine lv_iconst (v := 4) F.1 F.2.1 dX12_leave_154 (by decide) ?_
    obtain ⟨hn11, h⟩ := h
    refine kq_place F C hn11 dX12_leave_155 (fun H locs C => ?_)
    generalize eμ12 : km_sa μ10 38 l1.toNatClampNeg 4 = μ12 at C
    have h := h μ12 eμ12.symm
    refine lv_aload_n F.1 F.2.1 dX12_leave_156 rfl (lv_at hl 0 rfl) ?_
    refine kg_reachOf F C dX12_leave_157 ?_
    refine lv_iload_n F.1 F.2.1 dX12_leave_160 rfl (lv_at hl 1 rfl) ?_
    refine lv_iconst (v := (-1)) F.1 F.2.1 dX12_leave_161 (by decide) ?_
    obtain ⟨hn13, h⟩ := h
    refine kq_reachOf F C hn13 dX12_leave_162 (fun H locs C => ?_)
    generalize eμ14 : km_sa μ12 39 l1.toNatClampNeg (-1) = μ14 at C
    have h := h μ14 eμ14.symm
    refine lv_aload_n F.1 F.2.1 dX12_leave_163 rfl (lv_at hl 0 rfl) ?_
    refine kg_cellOf F C dX12_leave_164 ?_
    refine lv_iload_n F.1 F.2.1 dX12_leave_167 rfl (lv_at hl 1 rfl) ?_
    refine lv_iconst (v := (-1)) F.1 F.2.1 dX12_leave_168 (by decide) ?_
    obtain ⟨hn15, h⟩ := h
    refine kq_cellOf F C hn15 dX12_leave_169 (fun H locs C => ?_)
    generalize eμ16 : km_sa μ14 40 l1.toNatClampNeg (-1) = μ16 at C
    have h := h μ16 eμ16.symm
    refine lv_goto (tgt := 204) F.1 F.2.1 dX12_leave_170 (by decide) ?_
    exact km_vret F C hr hlocks h dX12_leave_204
set_option maxRecDepth 100000 in
set_option maxHeartbeats 4000000 in
theorem tX12_leave_113 (l : Launch) (G : km_G) {p : Program} {e : Env} {s : State} {m : MethodId} {args : Array Value} {below : List Frame} {meth : Method} {c : Code} (F : CallFix p m c cX12_leave 3 s args kt_ RX12) (hr : meth.sig.returnType = none) (hlocks : meth.locks = false) (Q : km_S → Prop) : ∀ (l1 : Int32) (l2 : Int32) (μ : km_S) (H : Heap) (locs : List Loc) (ls : Array Slot), wX12_leave_113 Q l1 l2 μ → km_X G s H locs μ → lv_has ls 3 [(0, .ref (G.1 0)), (1, .int l1), (2, .int l2)] → W p l e { frames := 3, cells := 0, slots := 0, locals := 77 } s m args below meth c H locs 0 0 (MQ below (km_Qv G Q) args s 0 0 (km_A G)) (F0 m 113 ls []) := by
  intro l1 l2 μ H locs ls h C hl
  refine lv_aload_n F.1 F.2.1 dX12_leave_113 rfl (lv_at hl 0 rfl) ?_
  refine kg_hasDam F C dX12_leave_114 ?_
  refine lv_iload_n F.1 F.2.1 dX12_leave_117 rfl (lv_at hl 2 rfl) ?_
  obtain ⟨hn17, h⟩ := h
  refine kl_hasDam F C hn17 dX12_leave_118 ?_
  refine lv_if_eq (tgt := 134) F.1 F.2.1 dX12_leave_119 (by decide) (fun c18 => ?_) (fun c18 => ?_)
  · have h := h.1 c18
    exact tX12_leave_134 l G F hr hlocks Q l1 l2 μ H locs ls h C (lv_sub hl [0, 1, 2] rfl)
  · have h := h.2 c18
    refine lv_aload_n F.1 F.2.1 dX12_leave_122 rfl (lv_at hl 0 rfl) ?_
    refine kg_out F C dX12_leave_123 ?_
    refine lv_iload_n F.1 F.2.1 dX12_leave_126 rfl (lv_at hl 2 rfl) ?_
    obtain ⟨hn19, h⟩ := h
    refine kl_out F C hn19 dX12_leave_127 ?_
    refine lv_bipush (v := 50) F.1 F.2.1 dX12_leave_128 (by decide) ?_
    refine lv_icmp_ge (tgt := 134) F.1 F.2.1 dX12_leave_130 (by decide) (fun c20 => ?_) (fun c20 => ?_)
    · have h := h.1 c20
      exact tX12_leave_134 l G F hr hlocks Q l1 l2 μ H locs ls h C (lv_sub hl [0, 1, 2] rfl)
    · have h := h.2 c20
      exact km_vret F C hr hlocks h dX12_leave_133
set_option maxRecDepth 100000 in
set_option maxHeartbeats 4000000 in
theorem hc_X12_leave (l : Launch) (G : km_G) (l1 : Int32) (l2 : Int32) (μ : km_S) (Q : km_S → Prop) (h : wX12_leave l1 l2 μ Q) : km_M l G yX12_leave cX12_leave 3 none (3) (77) [.ref (G.1 0), .int l1, .int l2] μ (km_Qv G Q) := by
  refine km_enter (by decide) rfl (Nat.le_of_ble_eq_true rfl) ?_
  intro p e s m below meth c ls F hr hlocks C hl
  have hl : lv_has ls 3 [(0, .ref (G.1 0)), (1, .int l1), (2, .int l2)] := hl
  obtain ⟨H, eH⟩ : ∃ z9, z9 = s.heap := ⟨_, rfl⟩
  obtain ⟨locs, eL⟩ : ∃ z9 : List Loc, z9 = [] := ⟨_, rfl⟩
  rw [← eH, ← eL] at C
  rw [← eH, ← eL]
  refine lv_aload_n F.1 F.2.1 dX12_leave_0 rfl (lv_at hl 0 rfl) ?_
  refine kg_hasBoom F C dX12_leave_1 ?_
  refine lv_iload_n F.1 F.2.1 dX12_leave_4 rfl (lv_at hl 2 rfl) ?_
  obtain ⟨hn21, h⟩ := h
  refine kl_hasBoom F C hn21 dX12_leave_5 ?_
  refine lv_if_eq (tgt := 113) F.1 F.2.1 dX12_leave_6 (by decide) (fun c22 => ?_) (fun c22 => ?_)
  · have h := h.1 c22
    exact tX12_leave_113 l G F hr hlocks Q l1 l2 μ H locs ls h C (lv_sub hl [0, 1, 2] rfl)
  · have h := h.2 c22
    refine lv_aload_n F.1 F.2.1 dX12_leave_9 rfl (lv_at hl 0 rfl) ?_
    refine kg_boomMarks F C dX12_leave_10 ?_
    refine lv_iload_n F.1 F.2.1 dX12_leave_13 rfl (lv_at hl 2 rfl) ?_
    obtain ⟨hn23, h⟩ := h
    refine kl_boomMarks F C hn23 dX12_leave_14 ?_
    refine lv_aload_n F.1 F.2.1 dX12_leave_15 rfl (lv_at hl 0 rfl) ?_
    refine kg_mark F C dX12_leave_16 ?_
    refine lv_iload_n F.1 F.2.1 dX12_leave_19 rfl (lv_at hl 1 rfl) ?_
    obtain ⟨hn24, h⟩ := h
    refine kl_mark F C hn24 dX12_leave_20 ?_
    refine lv_ishr (x := km_a μ 27 l2.toNatClampNeg) (y := km_a μ 35 l1.toNatClampNeg) F.1 F.2.1 dX12_leave_21 ?_
    refine lv_iconst (v := 1) F.1 F.2.1 dX12_leave_22 (by decide) ?_
    refine lv_iand (x := (km_a μ 27 l2.toNatClampNeg) >>> ((km_a μ 35 l1.toNatClampNeg) &&& 31)) (y := 1) F.1 F.2.1 dX12_leave_23 ?_
    refine lv_iconst (v := 1) F.1 F.2.1 dX12_leave_24 (by decide) ?_
    refine lv_icmp_ne (tgt := 113) F.1 F.2.1 dX12_leave_25 (by decide) (fun c25 => ?_) (fun c25 => ?_)
    · have h := h.1 c25
      exact tX12_leave_113 l G F hr hlocks Q l1 l2 μ H locs ls h C (lv_sub hl [0, 1, 2] rfl)
    · have h := h.2 c25
      refine lv_aload_n F.1 F.2.1 dX12_leave_28 rfl (lv_at hl 0 rfl) ?_
      refine kg_heaped F C dX12_leave_29 ?_
      refine lv_iload_n F.1 F.2.1 dX12_leave_32 rfl (lv_at hl 2 rfl) ?_
      obtain ⟨hn26, h⟩ := h
      refine kl_heaped F C hn26 dX12_leave_33 ?_
      refine lv_aload_n F.1 F.2.1 dX12_leave_34 rfl (lv_at hl 0 rfl) ?_
      refine kg_boomRoom F C dX12_leave_35 ?_
      refine lv_iload_n F.1 F.2.1 dX12_leave_38 rfl (lv_at hl 2 rfl) ?_
      obtain ⟨hn27, h⟩ := h
      refine kl_boomRoom F C hn27 dX12_leave_39 ?_
      refine lv_icmp_lt (tgt := 44) F.1 F.2.1 dX12_leave_40 (by decide) (fun c28 => ?_) (fun c28 => ?_)
      · have h := h.1 c28
        refine lv_aload_n F.1 F.2.1 dX12_leave_44 rfl (lv_at hl 0 rfl) ?_
        refine lv_iload_n F.1 F.2.1 dX12_leave_45 rfl (lv_at hl 1 rfl) ?_
        refine kc_X12_lift F C h (Nat.le_of_ble_eq_true rfl) (Nat.le_of_ble_eq_true rfl) hl.1 (by simp [Value.category]) dX12_leave_46 (fun μ29 H locs h C => ?_)
        refine lv_aload_n F.1 F.2.1 dX12_leave_49 rfl (lv_at hl 0 rfl) ?_
        refine kg_heap F C dX12_leave_50 ?_
        refine lv_bipush (v := 100) F.1 F.2.1 dX12_leave_53 (by decide) ?_
        refine lv_iload_n F.1 F.2.1 dX12_leave_55 rfl (lv_at hl 2 rfl) ?_
        refine lv_imul (x := 100) (y := l2) F.1 F.2.1 dX12_leave_56 ?_
        refine lv_aload_n F.1 F.2.1 dX12_leave_57 rfl (lv_at hl 0 rfl) ?_
        refine kg_heaped F C dX12_leave_58 ?_
        refine lv_iload_n F.1 F.2.1 dX12_leave_61 rfl (lv_at hl 2 rfl) ?_
        obtain ⟨hn30, h⟩ := h
        refine kl_heaped F C hn30 dX12_leave_62 ?_
        refine lv_iadd (x := 100 * l2) (y := km_a μ29 29 l2.toNatClampNeg) F.1 F.2.1 dX12_leave_63 ?_
        refine lv_iload_n F.1 F.2.1 dX12_leave_64 rfl (lv_at hl 1 rfl) ?_
        obtain ⟨hn31, h⟩ := h
        refine kq_heap F C hn31 dX12_leave_65 (fun H locs C => ?_)
        generalize eμ32 : km_sa μ29 30 ((100 * l2) + (km_a μ29 29 l2.toNatClampNeg)).toNatClampNeg l1 = μ32 at C
        have h := h μ32 eμ32.symm
        refine lv_aload_n F.1 F.2.1 dX12_leave_66 rfl (lv_at hl 0 rfl) ?_
        refine kg_heaped F C dX12_leave_67 ?_
        refine lv_iload_n F.1 F.2.1 dX12_leave_70 rfl (lv_at hl 2 rfl) ?_
        refine lv_dup2_11 F.1 F.2.1 dX12_leave_71 rfl rfl ?_
        obtain ⟨hn33, h⟩ := h
        refine kl_heaped F C hn33 dX12_leave_72 ?_
        refine lv_iconst (v := 1) F.1 F.2.1 dX12_leave_73 (by decide) ?_
        refine lv_iadd (x := km_a μ32 29 l2.toNatClampNeg) (y := 1) F.1 F.2.1 dX12_leave_74 ?_
        obtain ⟨hn34, h⟩ := h
        refine kq_heaped F C hn34 dX12_leave_75 (fun H locs C => ?_)
        generalize eμ35 : km_sa μ32 29 l2.toNatClampNeg ((km_a μ32 29 l2.toNatClampNeg) + 1) = μ35 at C
        have h := h μ35 eμ35.symm
        refine lv_aload_n F.1 F.2.1 dX12_leave_76 rfl (lv_at hl 0 rfl) ?_
        refine kg_place F C dX12_leave_77 ?_
        refine lv_iload_n F.1 F.2.1 dX12_leave_80 rfl (lv_at hl 1 rfl) ?_
        refine lv_iconst (v := 2) F.1 F.2.1 dX12_leave_81 (by decide) ?_
        obtain ⟨hn36, h⟩ := h
        refine kq_place F C hn36 dX12_leave_82 (fun H locs C => ?_)
        generalize eμ37 : km_sa μ35 38 l1.toNatClampNeg 2 = μ37 at C
        have h := h μ37 eμ37.symm
        refine lv_aload_n F.1 F.2.1 dX12_leave_83 rfl (lv_at hl 0 rfl) ?_
        refine kg_cellOf F C dX12_leave_84 ?_
        refine lv_iload_n F.1 F.2.1 dX12_leave_87 rfl (lv_at hl 1 rfl) ?_
        refine lv_iconst (v := (-1)) F.1 F.2.1 dX12_leave_88 (by decide) ?_
        obtain ⟨hn38, h⟩ := h
        refine kq_cellOf F C hn38 dX12_leave_89 (fun H locs C => ?_)
        generalize eμ39 : km_sa μ37 40 l1.toNatClampNeg (-1) = μ39 at C
        have h := h μ39 eμ39.symm
        refine lv_aload_n F.1 F.2.1 dX12_leave_90 rfl (lv_at hl 0 rfl) ?_
        refine kg_paid F C dX12_leave_91 ?_
        refine lv_aload_n F.1 F.2.1 dX12_leave_94 rfl (lv_at hl 0 rfl) ?_
        refine kg_mark F C dX12_leave_95 ?_
        refine lv_iload_n F.1 F.2.1 dX12_leave_98 rfl (lv_at hl 1 rfl) ?_
        obtain ⟨hn40, h⟩ := h
        refine kl_mark F C hn40 dX12_leave_99 ?_
        refine lv_dup2_11 F.1 F.2.1 dX12_leave_100 rfl rfl ?_
        obtain ⟨hn41, h⟩ := h
        refine kl_paid F C hn41 dX12_leave_101 ?_
        refine lv_aload_n F.1 F.2.1 dX12_leave_102 rfl (lv_at hl 0 rfl) ?_
        refine lv_iconst (v := 1) F.1 F.2.1 dX12_leave_103 (by decide) ?_
        refine lv_iload_n F.1 F.2.1 dX12_leave_104 rfl (lv_at hl 1 rfl) ?_
        refine lv_iload_n F.1 F.2.1 dX12_leave_105 rfl (lv_at hl 2 rfl) ?_
        refine kc_X12_ruled F C h (Nat.le_of_ble_eq_true rfl) (Nat.le_of_ble_eq_true rfl) hl.1 (by simp [Value.category]) dX12_leave_106 (fun r43 μ42 H locs h C => ?_)
        refine lv_i2l F.1 F.2.1 dX12_leave_109 rfl ?_
        refine lv_ladd (x := km_p μ39 (km_a μ39 35 l1.toNatClampNeg).toNatClampNeg) (y := r43.toInt64) F.1 F.2.1 dX12_leave_110 ?_
        obtain ⟨hn44, h⟩ := h
        refine kq_paid F C hn44 dX12_leave_111 (fun H locs C => ?_)
        generalize eμ45 : km_sp μ42 (km_a μ39 35 l1.toNatClampNeg).toNatClampNeg ((km_p μ39 (km_a μ39 35 l1.toNatClampNeg).toNatClampNeg) + r43.toInt64) = μ45 at C
        have h := h μ45 eμ45.symm
        exact km_vret F C hr hlocks h dX12_leave_112
      · have h := h.2 c28
        exact km_vret F C hr hlocks h dX12_leave_43
section
variable {p : Program} {l : Launch} {e : Env} {R : Room} {s : State} {m : MethodId} {args : Array Value} {below : List Frame} {meth : Method} {c : Code} {H : Heap} {locs : List Loc} {Q : State → Prop}
variable {cc : ByteArray} {pc nL : Nat} {ls : Array Slot} {rest : List Value} {G : km_G} {μ : km_S}
theorem kc_X12_leave (F : CallFix p m c cc nL s args kt_ RX12) (C : km_X G s H locs μ) {P : km_S → Prop} {l1 : Int32} {l2 : Int32} (h : wX12_leave l1 l2 μ P) (h1 : (3) + 1 ≤ R.frames) (h2 : 8 + (3 + 11) + (77) ≤ R.locals) (hsz : ls.size = nL) (hW : (rest.map fun v => v.category).sum ≤ 8) (hdg : decode cc pc = .ok (.invokevirtual 347, 3)) (kk : ∀ (μ' : km_S) (H1 : Heap) (locs1 : List Loc), P μ' → km_X G s H1 locs1 μ' → W p l e R s m args below meth c H1 locs1 0 0 Q (F0 m (pc + 3) ls rest)) : W p l e R s m args below meth c H locs 0 0 Q (F0 m pc ls (.int l2 :: .int l1 :: .ref (G.1 0) :: rest)) :=
  km_cVv (n := 2) (As := [.int l1, .int l2]) F C (hc_X12_leave l G l1 l2 μ P h) (kt_V tw_228 tw_229 tw_230 tw_151 tw_231) (by decide +kernel) ⟨h1, h2⟩ rfl hsz hW hdg kk
end
theorem dX12_go_0 : decode cX12_go 0 = .ok (.aload_n 0, 1) := by decide +kernel
theorem dX12_go_1 : decode cX12_go 1 = .ok (.getfield 110, 3) := by decide +kernel
theorem dX12_go_4 : decode cX12_go 4 = .ok (.iload_n 1, 1) := by decide +kernel
theorem dX12_go_5 : decode cX12_go 5 = .ok (.iaload, 1) := by decide +kernel
theorem dX12_go_6 : decode cX12_go 6 = .ok (.istore_n 2, 1) := by decide +kernel
theorem dX12_go_7 : decode cX12_go 7 = .ok (.bipush 6, 2) := by decide +kernel
theorem dX12_go_9 : decode cX12_go 9 = .ok (.aload_n 0, 1) := by decide +kernel
theorem dX12_go_10 : decode cX12_go 10 = .ok (.getfield 49, 3) := by decide +kernel
theorem dX12_go_13 : decode cX12_go 13 = .ok (.iload_n 2, 1) := by decide +kernel
theorem dX12_go_14 : decode cX12_go 14 = .ok (.iaload, 1) := by decide +kernel
theorem dX12_go_15 : decode cX12_go 15 = .ok (.bipush 100, 2) := by decide +kernel
theorem dX12_go_17 : decode cX12_go 17 = .ok (.idiv, 1) := by decide +kernel
theorem dX12_go_18 : decode cX12_go 18 = .ok (.invokestatic 338, 3) := by decide +kernel
theorem dX12_go_21 : decode cX12_go 21 = .ok (.istore_n 3, 1) := by decide +kernel
theorem dX12_go_22 : decode cX12_go 22 = .ok (.iconst 0, 1) := by decide +kernel
theorem dX12_go_23 : decode cX12_go 23 = .ok (.istore 4, 2) := by decide +kernel
theorem dX12_go_25 : decode cX12_go 25 = .ok (.iload 4, 2) := by decide +kernel
theorem dX12_go_27 : decode cX12_go 27 = .ok (.iload_n 3, 1) := by decide +kernel
theorem dX12_go_28 : decode cX12_go 28 = .ok (.if_icmp .ge 83, 3) := by decide +kernel
theorem dX12_go_31 : decode cX12_go 31 = .ok (.aload_n 0, 1) := by decide +kernel
theorem dX12_go_32 : decode cX12_go 32 = .ok (.getfield 113, 3) := by decide +kernel
theorem dX12_go_35 : decode cX12_go 35 = .ok (.iload_n 1, 1) := by decide +kernel
theorem dX12_go_36 : decode cX12_go 36 = .ok (.iaload, 1) := by decide +kernel
theorem dX12_go_37 : decode cX12_go 37 = .ok (.istore 5, 2) := by decide +kernel
theorem dX12_go_39 : decode cX12_go 39 = .ok (.aload_n 0, 1) := by decide +kernel
theorem dX12_go_40 : decode cX12_go 40 = .ok (.getfield 95, 3) := by decide +kernel
theorem dX12_go_43 : decode cX12_go 43 = .ok (.iload_n 2, 1) := by decide +kernel
theorem dX12_go_44 : decode cX12_go 44 = .ok (.iload 5, 2) := by decide +kernel
theorem dX12_go_46 : decode cX12_go 46 = .ok (.invokestatic 307, 3) := by decide +kernel
theorem dX12_go_49 : decode cX12_go 49 = .ok (.baload, 1) := by decide +kernel
theorem dX12_go_50 : decode cX12_go 50 = .ok (.ifCond .eq 4, 3) := by decide +kernel
theorem dX12_go_53 : decode cX12_go 53 = .ok (.return_, 1) := by decide +kernel
theorem dX12_go_54 : decode cX12_go 54 = .ok (.iload 5, 2) := by decide +kernel
theorem dX12_go_56 : decode cX12_go 56 = .ok (.iconst 1, 1) := by decide +kernel
theorem dX12_go_57 : decode cX12_go 57 = .ok (.iadd, 1) := by decide +kernel
theorem dX12_go_58 : decode cX12_go 58 = .ok (.aload_n 0, 1) := by decide +kernel
theorem dX12_go_59 : decode cX12_go 59 = .ok (.getfield 37, 3) := by decide +kernel
theorem dX12_go_62 : decode cX12_go 62 = .ok (.iload_n 2, 1) := by decide +kernel
theorem dX12_go_63 : decode cX12_go 63 = .ok (.iaload, 1) := by decide +kernel
theorem dX12_go_64 : decode cX12_go 64 = .ok (.if_icmp .ge 34, 3) := by decide +kernel
theorem dX12_go_67 : decode cX12_go 67 = .ok (.aload_n 0, 1) := by decide +kernel
theorem dX12_go_68 : decode cX12_go 68 = .ok (.iload_n 2, 1) := by decide +kernel
theorem dX12_go_69 : decode cX12_go 69 = .ok (.iload 5, 2) := by decide +kernel
theorem dX12_go_71 : decode cX12_go 71 = .ok (.iconst 1, 1) := by decide +kernel
theorem dX12_go_72 : decode cX12_go 72 = .ok (.iadd, 1) := by decide +kernel
theorem dX12_go_73 : decode cX12_go 73 = .ok (.invokevirtual 322, 3) := by decide +kernel
theorem dX12_go_76 : decode cX12_go 76 = .ok (.ifCond .ne 4, 3) := by decide +kernel
theorem dX12_go_79 : decode cX12_go 79 = .ok (.return_, 1) := by decide +kernel
theorem dX12_go_80 : decode cX12_go 80 = .ok (.aload_n 0, 1) := by decide +kernel
theorem dX12_go_81 : decode cX12_go 81 = .ok (.iload_n 1, 1) := by decide +kernel
theorem dX12_go_82 : decode cX12_go 82 = .ok (.invokevirtual 344, 3) := by decide +kernel
theorem dX12_go_85 : decode cX12_go 85 = .ok (.aload_n 0, 1) := by decide +kernel
theorem dX12_go_86 : decode cX12_go 86 = .ok (.iload_n 1, 1) := by decide +kernel
theorem dX12_go_87 : decode cX12_go 87 = .ok (.iload_n 2, 1) := by decide +kernel
theorem dX12_go_88 : decode cX12_go 88 = .ok (.iload 5, 2) := by decide +kernel
theorem dX12_go_90 : decode cX12_go 90 = .ok (.iconst 1, 1) := by decide +kernel
theorem dX12_go_91 : decode cX12_go 91 = .ok (.iadd, 1) := by decide +kernel
theorem dX12_go_92 : decode cX12_go 92 = .ok (.invokevirtual 325, 3) := by decide +kernel
theorem dX12_go_95 : decode cX12_go 95 = .ok (.goto 10, 3) := by decide +kernel
theorem dX12_go_98 : decode cX12_go 98 = .ok (.aload_n 0, 1) := by decide +kernel
theorem dX12_go_99 : decode cX12_go 99 = .ok (.iload_n 1, 1) := by decide +kernel
theorem dX12_go_100 : decode cX12_go 100 = .ok (.iload_n 2, 1) := by decide +kernel
theorem dX12_go_101 : decode cX12_go 101 = .ok (.invokevirtual 347, 3) := by decide +kernel
theorem dX12_go_104 : decode cX12_go 104 = .ok (.return_, 1) := by decide +kernel
theorem dX12_go_105 : decode cX12_go 105 = .ok (.iinc 4 1, 3) := by decide +kernel
theorem dX12_go_108 : decode cX12_go 108 = .ok (.goto (-83), 3) := by decide +kernel
theorem dX12_go_111 : decode cX12_go 111 = .ok (.return_, 1) := by decide +kernel
def wX12_go_98 (Q : km_S → Prop) (l1 : Int32) (l2 : Int32) (μ : km_S) : Prop := wX12_leave l1 l2 μ fun μ1 => Q μ1
def wX12_go_25 (k98 : Int32 → Int32 → km_S → Prop) (Q : km_S → Prop) : Nat → Int32 → Int32 → Int32 → Int32 → km_S → Prop
  | 0, _, _, _, _, _ => False
  | n + 1, l1, l2, l3, l4, μ => ((l3 ≤ l4 → Q μ) ∧
    (¬ (l3 ≤ l4) → vp_in l1 400 ∧ ∀ v4, v4 = km_a μ 40 l1.toNatClampNeg → wX12_at0 l2 v4 μ fun r6 μ5 => vp_in r6 120 ∧ (((km_a μ5 33 r6.toNatClampNeg) = 0 → vp_in l2 10 ∧ (((km_a μ5 14 l2.toNatClampNeg) ≤ (v4 + 1) → k98 l1 l2 μ5) ∧
        (¬ ((km_a μ5 14 l2.toNatClampNeg) ≤ (v4 + 1)) → wX12_isOpen l2 (v4 + 1) μ5 fun r12 μ11 => ((¬ r12 = 0 → wX12_lift l1 μ11 fun μ14 => wX12_lay l1 l2 (v4 + 1) μ14 fun μ15 => ∀ v16 : Int32, v16 = l4 + 1 → wX12_go_25 k98 Q n l1 l2 l3 v16 μ15) ∧
          (r12 = 0 → Q μ11))))) ∧
      (¬ ((km_a μ5 33 r6.toNatClampNeg) = 0) → Q μ5))))
def wX12_go (l1 : Int32) (μ : km_S) (Q : km_S → Prop) : Prop := vp_in l1 400 ∧ ∀ v18, v18 = km_a μ 39 l1.toNatClampNeg → vp_in v18 10 ∧ ∀ v20, v20 = (if ((km_a μ 18 v18.toNatClampNeg) / 100) < 6 then ((km_a μ 18 v18.toNatClampNeg) / 100) else 6) → ∃ j, wX12_go_25 (wX12_go_98 Q) Q j l1 v18 v20 0 μ
set_option maxRecDepth 100000 in
set_option maxHeartbeats 4000000 in
theorem tX12_go_98 (l : Launch) (G : km_G) {p : Program} {e : Env} {s : State} {m : MethodId} {args : Array Value} {below : List Frame} {meth : Method} {c : Code} (F : CallFix p m c cX12_go 6 s args kt_ RX12) (hr : meth.sig.returnType = none) (hlocks : meth.locks = false) (Q : km_S → Prop) : ∀ (l1 : Int32) (l2 : Int32) (μ : km_S) (H : Heap) (locs : List Loc) (ls : Array Slot), wX12_go_98 Q l1 l2 μ → km_X G s H locs μ → lv_has ls 6 [(0, .ref (G.1 0)), (1, .int l1), (2, .int l2)] → W p l e { frames := 4, cells := 0, slots := 0, locals := 99 } s m args below meth c H locs 0 0 (MQ below (km_Qv G Q) args s 0 0 (km_A G)) (F0 m 98 ls []) := by
  intro l1 l2 μ H locs ls h C hl
  refine lv_aload_n F.1 F.2.1 dX12_go_98 rfl (lv_at hl 0 rfl) ?_
  refine lv_iload_n F.1 F.2.1 dX12_go_99 rfl (lv_at hl 1 rfl) ?_
  refine lv_iload_n F.1 F.2.1 dX12_go_100 rfl (lv_at hl 2 rfl) ?_
  refine kc_X12_leave F C h (Nat.le_of_ble_eq_true rfl) (Nat.le_of_ble_eq_true rfl) hl.1 (by simp [Value.category]) dX12_go_101 (fun μ1 H locs h C => ?_)
  exact km_vret F C hr hlocks h dX12_go_104
set_option maxRecDepth 100000 in
set_option maxHeartbeats 4000000 in
theorem tX12_go_25 (l : Launch) (G : km_G) {p : Program} {e : Env} {s : State} {m : MethodId} {args : Array Value} {below : List Frame} {meth : Method} {c : Code} (F : CallFix p m c cX12_go 6 s args kt_ RX12) (hr : meth.sig.returnType = none) (hlocks : meth.locks = false) (Q : km_S → Prop) (k98 : Int32 → Int32 → km_S → Prop) (hk98 : ∀ (l1 : Int32) (l2 : Int32) (μ : km_S) (H : Heap) (locs : List Loc) (ls : Array Slot), k98 l1 l2 μ → km_X G s H locs μ → lv_has ls 6 [(0, .ref (G.1 0)), (1, .int l1), (2, .int l2)] → W p l e { frames := 4, cells := 0, slots := 0, locals := 99 } s m args below meth c H locs 0 0 (MQ below (km_Qv G Q) args s 0 0 (km_A G)) (F0 m 98 ls [])) : ∀ (n : Nat) (l1 : Int32) (l2 : Int32) (l3 : Int32) (l4 : Int32) (μ : km_S) (H : Heap) (locs : List Loc) (ls : Array Slot), wX12_go_25 k98 Q n l1 l2 l3 l4 μ → km_X G s H locs μ → lv_has ls 6 [(0, .ref (G.1 0)), (1, .int l1), (2, .int l2), (3, .int l3), (4, .int l4)] → W p l e { frames := 4, cells := 0, slots := 0, locals := 99 } s m args below meth c H locs 0 0 (MQ below (km_Qv G Q) args s 0 0 (km_A G)) (F0 m 25 ls []) := by
  intro n
  induction n with
  | zero => intro l1 l2 l3 l4 μ H locs ls h; exact h.elim
  | succ n ih =>
    intro l1 l2 l3 l4 μ H locs ls h C hl
    refine lv_iload F.1 F.2.1 dX12_go_25 (lv_at hl 4 rfl) ?_
    refine lv_iload_n F.1 F.2.1 dX12_go_27 rfl (lv_at hl 3 rfl) ?_
    refine lv_icmp_ge (tgt := 111) F.1 F.2.1 dX12_go_28 (by decide) (fun c2 => ?_) (fun c2 => ?_)
    · have h := h.1 c2
      exact km_vret F C hr hlocks h dX12_go_111
    · have h := h.2 c2
      refine lv_aload_n F.1 F.2.1 dX12_go_31 rfl (lv_at hl 0 rfl) ?_
      refine kg_cellOf F C dX12_go_32 ?_
      refine lv_iload_n F.1 F.2.1 dX12_go_35 rfl (lv_at hl 1 rfl) ?_
      obtain ⟨hn3, h⟩ := h
      refine kl_cellOf F C hn3 dX12_go_36 ?_
      refine lv_topi (fun v4 ev4 => ?_)
      have h := h v4 ev4
      refine lv_istore (lv' := [(5, .int v4), (0, .ref (G.1 0)), (1, .int l1), (2, .int l2), (3, .int l3), (4, .int l4)]) F.1 F.2.1 dX12_go_37 hl (by decide) rfl (fun ls hl => ?_)
      refine lv_aload_n F.1 F.2.1 dX12_go_39 rfl (lv_at hl 1 rfl) ?_
      refine kg_isJammed F C dX12_go_40 ?_
      refine lv_iload_n F.1 F.2.1 dX12_go_43 rfl (lv_at hl 3 rfl) ?_
      refine lv_iload F.1 F.2.1 dX12_go_44 (lv_at hl 0 rfl) ?_
      refine kc_X12_at0 F C h (Nat.le_of_ble_eq_true rfl) (Nat.le_of_ble_eq_true rfl) hl.1 (by simp [Value.category]) dX12_go_46 (fun r6 μ5 H locs h C => ?_)
      obtain ⟨hn7, h⟩ := h
      refine kl_isJammed F C hn7 dX12_go_49 ?_
      refine lv_if_eq (tgt := 54) F.1 F.2.1 dX12_go_50 (by decide) (fun c8 => ?_) (fun c8 => ?_)
      · have h := h.1 c8
        refine lv_iload F.1 F.2.1 dX12_go_54 (lv_at hl 0 rfl) ?_
        refine lv_iconst (v := 1) F.1 F.2.1 dX12_go_56 (by decide) ?_
        refine lv_iadd (x := v4) (y := 1) F.1 F.2.1 dX12_go_57 ?_
        refine lv_aload_n F.1 F.2.1 dX12_go_58 rfl (lv_at hl 1 rfl) ?_
        refine kg_length F C dX12_go_59 ?_
        refine lv_iload_n F.1 F.2.1 dX12_go_62 rfl (lv_at hl 3 rfl) ?_
        obtain ⟨hn9, h⟩ := h
        refine kl_length F C hn9 dX12_go_63 ?_
        refine lv_icmp_ge (tgt := 98) F.1 F.2.1 dX12_go_64 (by decide) (fun c10 => ?_) (fun c10 => ?_)
        · have h := h.1 c10
          exact hk98 l1 l2 μ5 H locs ls h C (lv_sub hl [1, 2, 3] rfl)
        · have h := h.2 c10
          refine lv_aload_n F.1 F.2.1 dX12_go_67 rfl (lv_at hl 1 rfl) ?_
          refine lv_iload_n F.1 F.2.1 dX12_go_68 rfl (lv_at hl 3 rfl) ?_
          refine lv_iload F.1 F.2.1 dX12_go_69 (lv_at hl 0 rfl) ?_
          refine lv_iconst (v := 1) F.1 F.2.1 dX12_go_71 (by decide) ?_
          refine lv_iadd (x := v4) (y := 1) F.1 F.2.1 dX12_go_72 ?_
          refine kc_X12_isOpen F C h (Nat.le_of_ble_eq_true rfl) (Nat.le_of_ble_eq_true rfl) hl.1 (by simp [Value.category]) dX12_go_73 (fun r12 μ11 H locs h C => ?_)
          refine lv_if_ne (tgt := 80) F.1 F.2.1 dX12_go_76 (by decide) (fun c13 => ?_) (fun c13 => ?_)
          · have h := h.1 c13
            refine lv_aload_n F.1 F.2.1 dX12_go_80 rfl (lv_at hl 1 rfl) ?_
            refine lv_iload_n F.1 F.2.1 dX12_go_81 rfl (lv_at hl 2 rfl) ?_
            refine kc_X12_lift F C h (Nat.le_of_ble_eq_true rfl) (Nat.le_of_ble_eq_true rfl) hl.1 (by simp [Value.category]) dX12_go_82 (fun μ14 H locs h C => ?_)
            refine lv_aload_n F.1 F.2.1 dX12_go_85 rfl (lv_at hl 1 rfl) ?_
            refine lv_iload_n F.1 F.2.1 dX12_go_86 rfl (lv_at hl 2 rfl) ?_
            refine lv_iload_n F.1 F.2.1 dX12_go_87 rfl (lv_at hl 3 rfl) ?_
            refine lv_iload F.1 F.2.1 dX12_go_88 (lv_at hl 0 rfl) ?_
            refine lv_iconst (v := 1) F.1 F.2.1 dX12_go_90 (by decide) ?_
            refine lv_iadd (x := v4) (y := 1) F.1 F.2.1 dX12_go_91 ?_
            refine kc_X12_lay F C h (Nat.le_of_ble_eq_true rfl) (Nat.le_of_ble_eq_true rfl) hl.1 (by simp [Value.category]) dX12_go_92 (fun μ15 H locs h C => ?_)
            refine lv_goto (tgt := 105) F.1 F.2.1 dX12_go_95 (by decide) ?_
            obtain ⟨v16, ev16⟩ : ∃ z9 : Int32, z9 = l4 + 1 := ⟨_, rfl⟩
            have h := h v16 ev16
            refine lv_iinc (v := v16) (lv' := [(4, .int v16), (5, .int v4), (0, .ref (G.1 0)), (1, .int l1), (2, .int l2), (3, .int l3)]) F.1 F.2.1 dX12_go_105 hl (k := 5) rfl (by rw [ev16]; rfl) (by decide) rfl (fun ls hl => ?_)
            refine lv_goto (tgt := 25) F.1 F.2.1 dX12_go_108 (by decide) ?_
            exact ih l1 l2 l3 v16 μ15 H locs ls h C (lv_sub hl [2, 3, 4, 5, 0] rfl)
          · have h := h.2 c13
            exact km_vret F C hr hlocks h dX12_go_79
      · have h := h.2 c8
        exact km_vret F C hr hlocks h dX12_go_53
set_option maxRecDepth 100000 in
set_option maxHeartbeats 4000000 in
theorem hc_X12_go (l : Launch) (G : km_G) (l1 : Int32) (μ : km_S) (Q : km_S → Prop) (h : wX12_go l1 μ Q) : km_M l G yX12_go cX12_go 6 none (4) (99) [.ref (G.1 0), .int l1] μ (km_Qv G Q) := by
  refine km_enter (by decide) rfl (Nat.le_of_ble_eq_true rfl) ?_
  intro p e s m below meth c ls F hr hlocks C hl
  have hl : lv_has ls 6 [(0, .ref (G.1 0)), (1, .int l1)] := hl
  obtain ⟨H, eH⟩ : ∃ z9, z9 = s.heap := ⟨_, rfl⟩
  obtain ⟨locs, eL⟩ : ∃ z9 : List Loc, z9 = [] := ⟨_, rfl⟩
  rw [← eH, ← eL] at C
  rw [← eH, ← eL]
  refine lv_aload_n F.1 F.2.1 dX12_go_0 rfl (lv_at hl 0 rfl) ?_
  refine kg_reachOf F C dX12_go_1 ?_
  refine lv_iload_n F.1 F.2.1 dX12_go_4 rfl (lv_at hl 1 rfl) ?_
  obtain ⟨hn17, h⟩ := h
  refine kl_reachOf F C hn17 dX12_go_5 ?_
  refine lv_topi (fun v18 ev18 => ?_)
  have h := h v18 ev18
  refine lv_istore_n (lv' := [(2, .int v18), (0, .ref (G.1 0)), (1, .int l1)]) F.1 F.2.1 dX12_go_6 rfl hl (by decide) rfl (fun ls hl => ?_)
  refine lv_bipush (v := 6) F.1 F.2.1 dX12_go_7 (by decide) ?_
  refine lv_aload_n F.1 F.2.1 dX12_go_9 rfl (lv_at hl 1 rfl) ?_
  refine kg_flow F C dX12_go_10 ?_
  refine lv_iload_n F.1 F.2.1 dX12_go_13 rfl (lv_at hl 0 rfl) ?_
  obtain ⟨hn19, h⟩ := h
  refine kl_flow F C hn19 dX12_go_14 ?_
  refine lv_bipush (v := 100) F.1 F.2.1 dX12_go_15 (by decide) ?_
  refine lv_idiv (x := km_a μ 18 v18.toNatClampNeg) (y := 100) F.1 F.2.1 dX12_go_17 (by decide) ?_
  refine km_min F (hsz := hl.1) (Nat.le_of_ble_eq_true rfl) (Nat.le_of_ble_eq_true rfl) dX12_go_18 ?_
  refine lv_topi (fun v20 ev20 => ?_)
  have h := h v20 ev20
  refine lv_istore_n (lv' := [(3, .int v20), (2, .int v18), (0, .ref (G.1 0)), (1, .int l1)]) F.1 F.2.1 dX12_go_21 rfl hl (by decide) rfl (fun ls hl => ?_)
  refine lv_iconst (v := 0) F.1 F.2.1 dX12_go_22 (by decide) ?_
  refine lv_istore (lv' := [(4, .int 0), (3, .int v20), (2, .int v18), (0, .ref (G.1 0)), (1, .int l1)]) F.1 F.2.1 dX12_go_23 hl (by decide) rfl (fun ls hl => ?_)
  obtain ⟨n21, h⟩ := h
  exact tX12_go_25 l G F hr hlocks Q (wX12_go_98 Q) (tX12_go_98 l G F hr hlocks Q) n21 l1 v18 v20 0 μ H locs ls h C (lv_sub hl [3, 4, 2, 1, 0] rfl)
section
variable {p : Program} {l : Launch} {e : Env} {R : Room} {s : State} {m : MethodId} {args : Array Value} {below : List Frame} {meth : Method} {c : Code} {H : Heap} {locs : List Loc} {Q : State → Prop}
variable {cc : ByteArray} {pc nL : Nat} {ls : Array Slot} {rest : List Value} {G : km_G} {μ : km_S}
theorem kc_X12_go (F : CallFix p m c cc nL s args kt_ RX12) (C : km_X G s H locs μ) {P : km_S → Prop} {l1 : Int32} (h : wX12_go l1 μ P) (h1 : (4) + 1 ≤ R.frames) (h2 : 8 + (6 + 11) + (99) ≤ R.locals) (hsz : ls.size = nL) (hW : (rest.map fun v => v.category).sum ≤ 8) (hdg : decode cc pc = .ok (.invokevirtual 351, 3)) (kk : ∀ (μ' : km_S) (H1 : Heap) (locs1 : List Loc), P μ' → km_X G s H1 locs1 μ' → W p l e R s m args below meth c H1 locs1 0 0 Q (F0 m (pc + 3) ls rest)) : W p l e R s m args below meth c H locs 0 0 Q (F0 m pc ls (.int l1 :: .ref (G.1 0) :: rest)) :=
  km_cVv (n := 1) (As := [.int l1]) F C (hc_X12_go l G l1 μ P h) (kt_V tw_232 tw_233 tw_234 tw_151 tw_235) (by decide +kernel) ⟨h1, h2⟩ rfl hsz hW hdg kk
end
theorem dX12_move_0 : decode cX12_move 0 = .ok (.iconst 0, 1) := by decide +kernel
theorem dX12_move_1 : decode cX12_move 1 = .ok (.istore_n 1, 1) := by decide +kernel
theorem dX12_move_2 : decode cX12_move 2 = .ok (.iload_n 1, 1) := by decide +kernel
theorem dX12_move_3 : decode cX12_move 3 = .ok (.aload_n 0, 1) := by decide +kernel
theorem dX12_move_4 : decode cX12_move 4 = .ok (.getfield 176, 3) := by decide +kernel
theorem dX12_move_7 : decode cX12_move 7 = .ok (.if_icmp .ge 104, 3) := by decide +kernel
theorem dX12_move_10 : decode cX12_move 10 = .ok (.aload_n 0, 1) := by decide +kernel
theorem dX12_move_11 : decode cX12_move 11 = .ok (.getfield 37, 3) := by decide +kernel
theorem dX12_move_14 : decode cX12_move 14 = .ok (.iload_n 1, 1) := by decide +kernel
theorem dX12_move_15 : decode cX12_move 15 = .ok (.iaload, 1) := by decide +kernel
theorem dX12_move_16 : decode cX12_move 16 = .ok (.iconst 1, 1) := by decide +kernel
theorem dX12_move_17 : decode cX12_move 17 = .ok (.isub, 1) := by decide +kernel
theorem dX12_move_18 : decode cX12_move 18 = .ok (.istore_n 2, 1) := by decide +kernel
theorem dX12_move_19 : decode cX12_move 19 = .ok (.iload_n 2, 1) := by decide +kernel
theorem dX12_move_20 : decode cX12_move 20 = .ok (.ifCond .lt 85, 3) := by decide +kernel
theorem dX12_move_23 : decode cX12_move 23 = .ok (.iload_n 1, 1) := by decide +kernel
theorem dX12_move_24 : decode cX12_move 24 = .ok (.iload_n 2, 1) := by decide +kernel
theorem dX12_move_25 : decode cX12_move 25 = .ok (.invokestatic 307, 3) := by decide +kernel
theorem dX12_move_28 : decode cX12_move 28 = .ok (.istore_n 3, 1) := by decide +kernel
theorem dX12_move_29 : decode cX12_move 29 = .ok (.aload_n 0, 1) := by decide +kernel
theorem dX12_move_30 : decode cX12_move 30 = .ok (.getfield 89, 3) := by decide +kernel
theorem dX12_move_33 : decode cX12_move 33 = .ok (.iload_n 3, 1) := by decide +kernel
theorem dX12_move_34 : decode cX12_move 34 = .ok (.iaload, 1) := by decide +kernel
theorem dX12_move_35 : decode cX12_move 35 = .ok (.istore 4, 2) := by decide +kernel
theorem dX12_move_37 : decode cX12_move 37 = .ok (.iconst 0, 1) := by decide +kernel
theorem dX12_move_38 : decode cX12_move 38 = .ok (.istore 5, 2) := by decide +kernel
theorem dX12_move_40 : decode cX12_move 40 = .ok (.iload 5, 2) := by decide +kernel
theorem dX12_move_42 : decode cX12_move 42 = .ok (.iload 4, 2) := by decide +kernel
theorem dX12_move_44 : decode cX12_move 44 = .ok (.if_icmp .ge 28, 3) := by decide +kernel
theorem dX12_move_47 : decode cX12_move 47 = .ok (.aload_n 0, 1) := by decide +kernel
theorem dX12_move_48 : decode cX12_move 48 = .ok (.getfield 170, 3) := by decide +kernel
theorem dX12_move_51 : decode cX12_move 51 = .ok (.iload 5, 2) := by decide +kernel
theorem dX12_move_53 : decode cX12_move 53 = .ok (.aload_n 0, 1) := by decide +kernel
theorem dX12_move_54 : decode cX12_move 54 = .ok (.getfield 92, 3) := by decide +kernel
theorem dX12_move_57 : decode cX12_move 57 = .ok (.bipush 20, 2) := by decide +kernel
theorem dX12_move_59 : decode cX12_move 59 = .ok (.iload_n 3, 1) := by decide +kernel
theorem dX12_move_60 : decode cX12_move 60 = .ok (.imul, 1) := by decide +kernel
theorem dX12_move_61 : decode cX12_move 61 = .ok (.iload 5, 2) := by decide +kernel
theorem dX12_move_63 : decode cX12_move 63 = .ok (.iadd, 1) := by decide +kernel
theorem dX12_move_64 : decode cX12_move 64 = .ok (.iaload, 1) := by decide +kernel
theorem dX12_move_65 : decode cX12_move 65 = .ok (.iastore, 1) := by decide +kernel
theorem dX12_move_66 : decode cX12_move 66 = .ok (.iinc 5 1, 3) := by decide +kernel
theorem dX12_move_69 : decode cX12_move 69 = .ok (.goto (-29), 3) := by decide +kernel
theorem dX12_move_72 : decode cX12_move 72 = .ok (.iconst 0, 1) := by decide +kernel
theorem dX12_move_73 : decode cX12_move 73 = .ok (.istore 5, 2) := by decide +kernel
theorem dX12_move_75 : decode cX12_move 75 = .ok (.iload 5, 2) := by decide +kernel
theorem dX12_move_77 : decode cX12_move 77 = .ok (.iload 4, 2) := by decide +kernel
theorem dX12_move_79 : decode cX12_move 79 = .ok (.if_icmp .ge 20, 3) := by decide +kernel
theorem dX12_move_82 : decode cX12_move 82 = .ok (.aload_n 0, 1) := by decide +kernel
theorem dX12_move_83 : decode cX12_move 83 = .ok (.aload_n 0, 1) := by decide +kernel
theorem dX12_move_84 : decode cX12_move 84 = .ok (.getfield 170, 3) := by decide +kernel
theorem dX12_move_87 : decode cX12_move 87 = .ok (.iload 5, 2) := by decide +kernel
theorem dX12_move_89 : decode cX12_move 89 = .ok (.iaload, 1) := by decide +kernel
theorem dX12_move_90 : decode cX12_move 90 = .ok (.invokevirtual 351, 3) := by decide +kernel
theorem dX12_move_93 : decode cX12_move 93 = .ok (.iinc 5 1, 3) := by decide +kernel
theorem dX12_move_96 : decode cX12_move 96 = .ok (.goto (-21), 3) := by decide +kernel
theorem dX12_move_99 : decode cX12_move 99 = .ok (.iinc 2 (-1), 3) := by decide +kernel
theorem dX12_move_102 : decode cX12_move 102 = .ok (.goto (-83), 3) := by decide +kernel
theorem dX12_move_105 : decode cX12_move 105 = .ok (.iinc 1 1, 3) := by decide +kernel
theorem dX12_move_108 : decode cX12_move 108 = .ok (.goto (-106), 3) := by decide +kernel
theorem dX12_move_111 : decode cX12_move 111 = .ok (.return_, 1) := by decide +kernel
def wX12_move_105 (k2 : Int32 → km_S → Prop) (Q : km_S → Prop) (l1 : Int32) (μ : km_S) : Prop := ∀ v1 : Int32, v1 = l1 + 1 → k2 v1 μ
def wX12_move_99 (k19 : Int32 → Int32 → km_S → Prop) (Q : km_S → Prop) (l1 : Int32) (l2 : Int32) (μ : km_S) : Prop := ∀ v2 : Int32, v2 = l2 + (-1) → k19 l1 v2 μ
def wX12_move_75 (k99 : Int32 → Int32 → km_S → Prop) (Q : km_S → Prop) : Nat → Int32 → Int32 → Int32 → Int32 → km_S → Prop
  | 0, _, _, _, _, _ => False
  | n + 1, l1, l2, l4, l5, μ => ((l4 ≤ l5 → k99 l1 l2 μ) ∧
    (¬ (l4 ≤ l5) → vp_in l5 20 ∧ wX12_go (km_a μ 69 l5.toNatClampNeg) μ fun μ5 => ∀ v6 : Int32, v6 = l5 + 1 → wX12_move_75 k99 Q n l1 l2 l4 v6 μ5))
def wX12_move_72 (k19 : Int32 → Int32 → km_S → Prop) (Q : km_S → Prop) (l1 : Int32) (l2 : Int32) (l4 : Int32) (μ : km_S) : Prop := ∃ j, wX12_move_75 (wX12_move_99 k19 Q) Q j l1 l2 l4 0 μ
def wX12_move_40 (k72 : Int32 → Int32 → Int32 → km_S → Prop) (Q : km_S → Prop) : Nat → Int32 → Int32 → Int32 → Int32 → Int32 → km_S → Prop
  | 0, _, _, _, _, _, _ => False
  | n + 1, l1, l2, l3, l4, l5, μ => ((l4 ≤ l5 → k72 l1 l2 l4 μ) ∧
    (¬ (l4 ≤ l5) → vp_in ((20 * l3) + l5) 2400 ∧ vp_in l5 20 ∧ ∀ μ11, μ11 = km_sa μ 69 l5.toNatClampNeg (km_a μ 32 ((20 * l3) + l5).toNatClampNeg) → ∀ v12 : Int32, v12 = l5 + 1 → wX12_move_40 k72 Q n l1 l2 l3 l4 v12 μ11))
def wX12_move_19 (k105 : Int32 → km_S → Prop) (Q : km_S → Prop) : Nat → Int32 → Int32 → km_S → Prop
  | 0, _, _, _ => False
  | n + 1, l1, l2, μ => ((l2 < 0 → k105 l1 μ) ∧
    (¬ (l2 < 0) → wX12_at0 l1 l2 μ fun r15 μ14 => vp_in r15 120 ∧ ∀ v17, v17 = km_a μ14 31 r15.toNatClampNeg → ∃ j, wX12_move_40 (wX12_move_72 (wX12_move_19 k105 Q n) Q) Q j l1 l2 r15 v17 0 μ14))
def wX12_move_2 (Q : km_S → Prop) : Nat → Int32 → km_S → Prop
  | 0, _, _ => False
  | n + 1, l1, μ => (((km_i μ 3) ≤ l1 → Q μ) ∧
    (¬ ((km_i μ 3) ≤ l1) → vp_in l1 10 ∧ ∀ v21, v21 = (km_a μ 14 l1.toNatClampNeg) - 1 → ∃ j, wX12_move_19 (wX12_move_105 (wX12_move_2 Q n) Q) Q j l1 v21 μ))
def wX12_move (μ : km_S) (Q : km_S → Prop) : Prop := ∃ j, wX12_move_2 Q j 0 μ
set_option maxRecDepth 100000 in
set_option maxHeartbeats 4000000 in
theorem tX12_move_105 (l : Launch) (G : km_G) {p : Program} {e : Env} {s : State} {m : MethodId} {args : Array Value} {below : List Frame} {meth : Method} {c : Code} (F : CallFix p m c cX12_move 6 s args kt_ RX12) (hr : meth.sig.returnType = none) (hlocks : meth.locks = false) (Q : km_S → Prop) (k2 : Int32 → km_S → Prop) (hk2 : ∀ (l1 : Int32) (μ : km_S) (H : Heap) (locs : List Loc) (ls : Array Slot), k2 l1 μ → km_X G s H locs μ → lv_has ls 6 [(0, .ref (G.1 0)), (1, .int l1)] → W p l e { frames := 5, cells := 0, slots := 0, locals := 124 } s m args below meth c H locs 0 0 (MQ below (km_Qv G Q) args s 0 0 (km_A G)) (F0 m 2 ls [])) : ∀ (l1 : Int32) (μ : km_S) (H : Heap) (locs : List Loc) (ls : Array Slot), wX12_move_105 k2 Q l1 μ → km_X G s H locs μ → lv_has ls 6 [(0, .ref (G.1 0)), (1, .int l1)] → W p l e { frames := 5, cells := 0, slots := 0, locals := 124 } s m args below meth c H locs 0 0 (MQ below (km_Qv G Q) args s 0 0 (km_A G)) (F0 m 105 ls []) := by
  intro l1 μ H locs ls h C hl
  obtain ⟨v1, ev1⟩ : ∃ z9 : Int32, z9 = l1 + 1 := ⟨_, rfl⟩
  have h := h v1 ev1
  refine lv_iinc (v := v1) (lv' := [(1, .int v1), (0, .ref (G.1 0))]) F.1 F.2.1 dX12_move_105 hl (k := 1) rfl (by rw [ev1]; rfl) (by decide) rfl (fun ls hl => ?_)
  refine lv_goto (tgt := 2) F.1 F.2.1 dX12_move_108 (by decide) ?_
  exact hk2 v1 μ H locs ls h C (lv_sub hl [1, 0] rfl)
set_option maxRecDepth 100000 in
set_option maxHeartbeats 4000000 in
theorem tX12_move_99 (l : Launch) (G : km_G) {p : Program} {e : Env} {s : State} {m : MethodId} {args : Array Value} {below : List Frame} {meth : Method} {c : Code} (F : CallFix p m c cX12_move 6 s args kt_ RX12) (hr : meth.sig.returnType = none) (hlocks : meth.locks = false) (Q : km_S → Prop) (k19 : Int32 → Int32 → km_S → Prop) (hk19 : ∀ (l1 : Int32) (l2 : Int32) (μ : km_S) (H : Heap) (locs : List Loc) (ls : Array Slot), k19 l1 l2 μ → km_X G s H locs μ → lv_has ls 6 [(0, .ref (G.1 0)), (1, .int l1), (2, .int l2)] → W p l e { frames := 5, cells := 0, slots := 0, locals := 124 } s m args below meth c H locs 0 0 (MQ below (km_Qv G Q) args s 0 0 (km_A G)) (F0 m 19 ls [])) : ∀ (l1 : Int32) (l2 : Int32) (μ : km_S) (H : Heap) (locs : List Loc) (ls : Array Slot), wX12_move_99 k19 Q l1 l2 μ → km_X G s H locs μ → lv_has ls 6 [(0, .ref (G.1 0)), (1, .int l1), (2, .int l2)] → W p l e { frames := 5, cells := 0, slots := 0, locals := 124 } s m args below meth c H locs 0 0 (MQ below (km_Qv G Q) args s 0 0 (km_A G)) (F0 m 99 ls []) := by
  intro l1 l2 μ H locs ls h C hl
  obtain ⟨v2, ev2⟩ : ∃ z9 : Int32, z9 = l2 + (-1) := ⟨_, rfl⟩
  have h := h v2 ev2
  refine lv_iinc (v := v2) (lv' := [(2, .int v2), (0, .ref (G.1 0)), (1, .int l1)]) F.1 F.2.1 dX12_move_99 hl (k := 2) rfl (by rw [ev2]; rfl) (by decide) rfl (fun ls hl => ?_)
  refine lv_goto (tgt := 19) F.1 F.2.1 dX12_move_102 (by decide) ?_
  exact hk19 l1 v2 μ H locs ls h C (lv_sub hl [1, 2, 0] rfl)
set_option maxRecDepth 100000 in
set_option maxHeartbeats 4000000 in
theorem tX12_move_75 (l : Launch) (G : km_G) {p : Program} {e : Env} {s : State} {m : MethodId} {args : Array Value} {below : List Frame} {meth : Method} {c : Code} (F : CallFix p m c cX12_move 6 s args kt_ RX12) (hr : meth.sig.returnType = none) (hlocks : meth.locks = false) (Q : km_S → Prop) (k99 : Int32 → Int32 → km_S → Prop) (hk99 : ∀ (l1 : Int32) (l2 : Int32) (μ : km_S) (H : Heap) (locs : List Loc) (ls : Array Slot), k99 l1 l2 μ → km_X G s H locs μ → lv_has ls 6 [(0, .ref (G.1 0)), (1, .int l1), (2, .int l2)] → W p l e { frames := 5, cells := 0, slots := 0, locals := 124 } s m args below meth c H locs 0 0 (MQ below (km_Qv G Q) args s 0 0 (km_A G)) (F0 m 99 ls [])) : ∀ (n : Nat) (l1 : Int32) (l2 : Int32) (l4 : Int32) (l5 : Int32) (μ : km_S) (H : Heap) (locs : List Loc) (ls : Array Slot), wX12_move_75 k99 Q n l1 l2 l4 l5 μ → km_X G s H locs μ → lv_has ls 6 [(0, .ref (G.1 0)), (1, .int l1), (2, .int l2), (4, .int l4), (5, .int l5)] → W p l e { frames := 5, cells := 0, slots := 0, locals := 124 } s m args below meth c H locs 0 0 (MQ below (km_Qv G Q) args s 0 0 (km_A G)) (F0 m 75 ls []) := by
  intro n
  induction n with
  | zero => intro l1 l2 l4 l5 μ H locs ls h; exact h.elim
  | succ n ih =>
    intro l1 l2 l4 l5 μ H locs ls h C hl
    refine lv_iload F.1 F.2.1 dX12_move_75 (lv_at hl 4 rfl) ?_
    refine lv_iload F.1 F.2.1 dX12_move_77 (lv_at hl 3 rfl) ?_
    refine lv_icmp_ge (tgt := 99) F.1 F.2.1 dX12_move_79 (by decide) (fun c3 => ?_) (fun c3 => ?_)
    · have h := h.1 c3
      exact hk99 l1 l2 μ H locs ls h C (lv_sub hl [0, 1, 2] rfl)
    · have h := h.2 c3
      refine lv_aload_n F.1 F.2.1 dX12_move_82 rfl (lv_at hl 0 rfl) ?_
      refine lv_aload_n F.1 F.2.1 dX12_move_83 rfl (lv_at hl 0 rfl) ?_
      refine kg_row F C dX12_move_84 ?_
      refine lv_iload F.1 F.2.1 dX12_move_87 (lv_at hl 4 rfl) ?_
      obtain ⟨hn4, h⟩ := h
      refine kl_row F C hn4 dX12_move_89 ?_
      refine kc_X12_go F C h (Nat.le_of_ble_eq_true rfl) (Nat.le_of_ble_eq_true rfl) hl.1 (by simp [Value.category]) dX12_move_90 (fun μ5 H locs h C => ?_)
      obtain ⟨v6, ev6⟩ : ∃ z9 : Int32, z9 = l5 + 1 := ⟨_, rfl⟩
      have h := h v6 ev6
      refine lv_iinc (v := v6) (lv' := [(5, .int v6), (0, .ref (G.1 0)), (1, .int l1), (2, .int l2), (4, .int l4)]) F.1 F.2.1 dX12_move_93 hl (k := 4) rfl (by rw [ev6]; rfl) (by decide) rfl (fun ls hl => ?_)
      refine lv_goto (tgt := 75) F.1 F.2.1 dX12_move_96 (by decide) ?_
      exact ih l1 l2 l4 v6 μ5 H locs ls h C (lv_sub hl [1, 2, 3, 4, 0] rfl)
set_option maxRecDepth 100000 in
set_option maxHeartbeats 4000000 in
theorem tX12_move_72 (l : Launch) (G : km_G) {p : Program} {e : Env} {s : State} {m : MethodId} {args : Array Value} {below : List Frame} {meth : Method} {c : Code} (F : CallFix p m c cX12_move 6 s args kt_ RX12) (hr : meth.sig.returnType = none) (hlocks : meth.locks = false) (Q : km_S → Prop) (k19 : Int32 → Int32 → km_S → Prop) (hk19 : ∀ (l1 : Int32) (l2 : Int32) (μ : km_S) (H : Heap) (locs : List Loc) (ls : Array Slot), k19 l1 l2 μ → km_X G s H locs μ → lv_has ls 6 [(0, .ref (G.1 0)), (1, .int l1), (2, .int l2)] → W p l e { frames := 5, cells := 0, slots := 0, locals := 124 } s m args below meth c H locs 0 0 (MQ below (km_Qv G Q) args s 0 0 (km_A G)) (F0 m 19 ls [])) : ∀ (l1 : Int32) (l2 : Int32) (l4 : Int32) (μ : km_S) (H : Heap) (locs : List Loc) (ls : Array Slot), wX12_move_72 k19 Q l1 l2 l4 μ → km_X G s H locs μ → lv_has ls 6 [(0, .ref (G.1 0)), (1, .int l1), (2, .int l2), (4, .int l4)] → W p l e { frames := 5, cells := 0, slots := 0, locals := 124 } s m args below meth c H locs 0 0 (MQ below (km_Qv G Q) args s 0 0 (km_A G)) (F0 m 72 ls []) := by
  intro l1 l2 l4 μ H locs ls h C hl
  refine lv_iconst (v := 0) F.1 F.2.1 dX12_move_72 (by decide) ?_
  refine lv_istore (lv' := [(5, .int 0), (0, .ref (G.1 0)), (1, .int l1), (2, .int l2), (4, .int l4)]) F.1 F.2.1 dX12_move_73 hl (by decide) rfl (fun ls hl => ?_)
  obtain ⟨n7, h⟩ := h
  exact tX12_move_75 l G F hr hlocks Q (wX12_move_99 k19 Q) (tX12_move_99 l G F hr hlocks Q k19 hk19) n7 l1 l2 l4 0 μ H locs ls h C (lv_sub hl [1, 2, 3, 4, 0] rfl)
set_option maxRecDepth 100000 in
set_option maxHeartbeats 4000000 in
theorem tX12_move_40 (l : Launch) (G : km_G) {p : Program} {e : Env} {s : State} {m : MethodId} {args : Array Value} {below : List Frame} {meth : Method} {c : Code} (F : CallFix p m c cX12_move 6 s args kt_ RX12) (hr : meth.sig.returnType = none) (hlocks : meth.locks = false) (Q : km_S → Prop) (k72 : Int32 → Int32 → Int32 → km_S → Prop) (hk72 : ∀ (l1 : Int32) (l2 : Int32) (l4 : Int32) (μ : km_S) (H : Heap) (locs : List Loc) (ls : Array Slot), k72 l1 l2 l4 μ → km_X G s H locs μ → lv_has ls 6 [(0, .ref (G.1 0)), (1, .int l1), (2, .int l2), (4, .int l4)] → W p l e { frames := 5, cells := 0, slots := 0, locals := 124 } s m args below meth c H locs 0 0 (MQ below (km_Qv G Q) args s 0 0 (km_A G)) (F0 m 72 ls [])) : ∀ (n : Nat) (l1 : Int32) (l2 : Int32) (l3 : Int32) (l4 : Int32) (l5 : Int32) (μ : km_S) (H : Heap) (locs : List Loc) (ls : Array Slot), wX12_move_40 k72 Q n l1 l2 l3 l4 l5 μ → km_X G s H locs μ → lv_has ls 6 [(0, .ref (G.1 0)), (1, .int l1), (2, .int l2), (3, .int l3), (4, .int l4), (5, .int l5)] → W p l e { frames := 5, cells := 0, slots := 0, locals := 124 } s m args below meth c H locs 0 0 (MQ below (km_Qv G Q) args s 0 0 (km_A G)) (F0 m 40 ls []) := by
  intro n
  induction n with
  | zero => intro l1 l2 l3 l4 l5 μ H locs ls h; exact h.elim
  | succ n ih =>
    intro l1 l2 l3 l4 l5 μ H locs ls h C hl
    refine lv_iload F.1 F.2.1 dX12_move_40 (lv_at hl 5 rfl) ?_
    refine lv_iload F.1 F.2.1 dX12_move_42 (lv_at hl 4 rfl) ?_
    refine lv_icmp_ge (tgt := 72) F.1 F.2.1 dX12_move_44 (by decide) (fun c8 => ?_) (fun c8 => ?_)
    · have h := h.1 c8
      exact hk72 l1 l2 l4 μ H locs ls h C (lv_sub hl [0, 1, 2, 4] rfl)
    · have h := h.2 c8
      refine lv_aload_n F.1 F.2.1 dX12_move_47 rfl (lv_at hl 0 rfl) ?_
      refine kg_row F C dX12_move_48 ?_
      refine lv_iload F.1 F.2.1 dX12_move_51 (lv_at hl 5 rfl) ?_
      refine lv_aload_n F.1 F.2.1 dX12_move_53 rfl (lv_at hl 0 rfl) ?_
      refine kg_lie F C dX12_move_54 ?_
      refine lv_bipush (v := 20) F.1 F.2.1 dX12_move_57 (by decide) ?_
      refine lv_iload_n F.1 F.2.1 dX12_move_59 rfl (lv_at hl 3 rfl) ?_
      refine lv_imul (x := 20) (y := l3) F.1 F.2.1 dX12_move_60 ?_
      refine lv_iload F.1 F.2.1 dX12_move_61 (lv_at hl 5 rfl) ?_
      refine lv_iadd (x := 20 * l3) (y := l5) F.1 F.2.1 dX12_move_63 ?_
      obtain ⟨hn9, h⟩ := h
      refine kl_lie F C hn9 dX12_move_64 ?_
      obtain ⟨hn10, h⟩ := h
      refine kq_row F C hn10 dX12_move_65 (fun H locs C => ?_)
      generalize eμ11 : km_sa μ 69 l5.toNatClampNeg (km_a μ 32 ((20 * l3) + l5).toNatClampNeg) = μ11 at C
      have h := h μ11 eμ11.symm
      obtain ⟨v12, ev12⟩ : ∃ z9 : Int32, z9 = l5 + 1 := ⟨_, rfl⟩
      have h := h v12 ev12
      refine lv_iinc (v := v12) (lv' := [(5, .int v12), (0, .ref (G.1 0)), (1, .int l1), (2, .int l2), (3, .int l3), (4, .int l4)]) F.1 F.2.1 dX12_move_66 hl (k := 5) rfl (by rw [ev12]; rfl) (by decide) rfl (fun ls hl => ?_)
      refine lv_goto (tgt := 40) F.1 F.2.1 dX12_move_69 (by decide) ?_
      exact ih l1 l2 l3 l4 v12 μ11 H locs ls h C (lv_sub hl [1, 2, 3, 4, 5, 0] rfl)
set_option maxRecDepth 100000 in
set_option maxHeartbeats 4000000 in
theorem tX12_move_19 (l : Launch) (G : km_G) {p : Program} {e : Env} {s : State} {m : MethodId} {args : Array Value} {below : List Frame} {meth : Method} {c : Code} (F : CallFix p m c cX12_move 6 s args kt_ RX12) (hr : meth.sig.returnType = none) (hlocks : meth.locks = false) (Q : km_S → Prop) (k105 : Int32 → km_S → Prop) (hk105 : ∀ (l1 : Int32) (μ : km_S) (H : Heap) (locs : List Loc) (ls : Array Slot), k105 l1 μ → km_X G s H locs μ → lv_has ls 6 [(0, .ref (G.1 0)), (1, .int l1)] → W p l e { frames := 5, cells := 0, slots := 0, locals := 124 } s m args below meth c H locs 0 0 (MQ below (km_Qv G Q) args s 0 0 (km_A G)) (F0 m 105 ls [])) : ∀ (n : Nat) (l1 : Int32) (l2 : Int32) (μ : km_S) (H : Heap) (locs : List Loc) (ls : Array Slot), wX12_move_19 k105 Q n l1 l2 μ → km_X G s H locs μ → lv_has ls 6 [(0, .ref (G.1 0)), (1, .int l1), (2, .int l2)] → W p l e { frames := 5, cells := 0, slots := 0, locals := 124 } s m args below meth c H locs 0 0 (MQ below (km_Qv G Q) args s 0 0 (km_A G)) (F0 m 19 ls []) := by
  intro n
  induction n with
  | zero => intro l1 l2 μ H locs ls h; exact h.elim
  | succ n ih =>
    intro l1 l2 μ H locs ls h C hl
    refine lv_iload_n F.1 F.2.1 dX12_move_19 rfl (lv_at hl 2 rfl) ?_
    refine lv_if_lt (tgt := 105) F.1 F.2.1 dX12_move_20 (by decide) (fun c13 => ?_) (fun c13 => ?_)
    · have h := h.1 c13
      exact hk105 l1 μ H locs ls h C (lv_sub hl [0, 1] rfl)
    · have h := h.2 c13
      refine lv_iload_n F.1 F.2.1 dX12_move_23 rfl (lv_at hl 1 rfl) ?_
      refine lv_iload_n F.1 F.2.1 dX12_move_24 rfl (lv_at hl 2 rfl) ?_
      refine kc_X12_at0 F C h (Nat.le_of_ble_eq_true rfl) (Nat.le_of_ble_eq_true rfl) hl.1 (by simp [Value.category]) dX12_move_25 (fun r15 μ14 H locs h C => ?_)
      refine lv_istore_n (lv' := [(3, .int r15), (0, .ref (G.1 0)), (1, .int l1), (2, .int l2)]) F.1 F.2.1 dX12_move_28 rfl hl (by decide) rfl (fun ls hl => ?_)
      refine lv_aload_n F.1 F.2.1 dX12_move_29 rfl (lv_at hl 1 rfl) ?_
      refine kg_holds F C dX12_move_30 ?_
      refine lv_iload_n F.1 F.2.1 dX12_move_33 rfl (lv_at hl 0 rfl) ?_
      obtain ⟨hn16, h⟩ := h
      refine kl_holds F C hn16 dX12_move_34 ?_
      refine lv_topi (fun v17 ev17 => ?_)
      have h := h v17 ev17
      refine lv_istore (lv' := [(4, .int v17), (3, .int r15), (0, .ref (G.1 0)), (1, .int l1), (2, .int l2)]) F.1 F.2.1 dX12_move_35 hl (by decide) rfl (fun ls hl => ?_)
      refine lv_iconst (v := 0) F.1 F.2.1 dX12_move_37 (by decide) ?_
      refine lv_istore (lv' := [(5, .int 0), (4, .int v17), (3, .int r15), (0, .ref (G.1 0)), (1, .int l1), (2, .int l2)]) F.1 F.2.1 dX12_move_38 hl (by decide) rfl (fun ls hl => ?_)
      obtain ⟨n18, h⟩ := h
      exact tX12_move_40 l G F hr hlocks Q (wX12_move_72 (wX12_move_19 k105 Q n) Q) (tX12_move_72 l G F hr hlocks Q (wX12_move_19 k105 Q n) (fun l1 l2 μ9 H locs ls h C hl => ih l1 l2 μ9 H locs ls h C hl)) n18 l1 l2 r15 v17 0 μ14 H locs ls h C (lv_sub hl [3, 4, 5, 2, 1, 0] rfl)
set_option maxRecDepth 100000 in
set_option maxHeartbeats 4000000 in
theorem tX12_move_2 (l : Launch) (G : km_G) {p : Program} {e : Env} {s : State} {m : MethodId} {args : Array Value} {below : List Frame} {meth : Method} {c : Code} (F : CallFix p m c cX12_move 6 s args kt_ RX12) (hr : meth.sig.returnType = none) (hlocks : meth.locks = false) (Q : km_S → Prop) : ∀ (n : Nat) (l1 : Int32) (μ : km_S) (H : Heap) (locs : List Loc) (ls : Array Slot), wX12_move_2 Q n l1 μ → km_X G s H locs μ → lv_has ls 6 [(0, .ref (G.1 0)), (1, .int l1)] → W p l e { frames := 5, cells := 0, slots := 0, locals := 124 } s m args below meth c H locs 0 0 (MQ below (km_Qv G Q) args s 0 0 (km_A G)) (F0 m 2 ls []) := by
  intro n
  induction n with
  | zero => intro l1 μ H locs ls h; exact h.elim
  | succ n ih =>
    intro l1 μ H locs ls h C hl
    refine lv_iload_n F.1 F.2.1 dX12_move_2 rfl (lv_at hl 1 rfl) ?_
    refine lv_aload_n F.1 F.2.1 dX12_move_3 rfl (lv_at hl 0 rfl) ?_
    refine kg_reaches F C dX12_move_4 ?_
    refine lv_icmp_ge (tgt := 111) F.1 F.2.1 dX12_move_7 (by decide) (fun c19 => ?_) (fun c19 => ?_)
    · have h := h.1 c19
      exact km_vret F C hr hlocks h dX12_move_111
    · have h := h.2 c19
      refine lv_aload_n F.1 F.2.1 dX12_move_10 rfl (lv_at hl 0 rfl) ?_
      refine kg_length F C dX12_move_11 ?_
      refine lv_iload_n F.1 F.2.1 dX12_move_14 rfl (lv_at hl 1 rfl) ?_
      obtain ⟨hn20, h⟩ := h
      refine kl_length F C hn20 dX12_move_15 ?_
      refine lv_iconst (v := 1) F.1 F.2.1 dX12_move_16 (by decide) ?_
      refine lv_isub (x := km_a μ 14 l1.toNatClampNeg) (y := 1) F.1 F.2.1 dX12_move_17 ?_
      refine lv_topi (fun v21 ev21 => ?_)
      have h := h v21 ev21
      refine lv_istore_n (lv' := [(2, .int v21), (0, .ref (G.1 0)), (1, .int l1)]) F.1 F.2.1 dX12_move_18 rfl hl (by decide) rfl (fun ls hl => ?_)
      obtain ⟨n22, h⟩ := h
      exact tX12_move_19 l G F hr hlocks Q (wX12_move_105 (wX12_move_2 Q n) Q) (tX12_move_105 l G F hr hlocks Q (wX12_move_2 Q n) (fun l1 μ9 H locs ls h C hl => ih l1 μ9 H locs ls h C hl)) n22 l1 v21 μ H locs ls h C (lv_sub hl [1, 2, 0] rfl)
set_option maxRecDepth 100000 in
set_option maxHeartbeats 4000000 in
theorem hc_X12_move (l : Launch) (G : km_G) (μ : km_S) (Q : km_S → Prop) (h : wX12_move μ Q) : km_M l G yX12_move cX12_move 6 none (5) (124) [.ref (G.1 0)] μ (km_Qv G Q) := by
  refine km_enter (by decide) rfl (Nat.le_of_ble_eq_true rfl) ?_
  intro p e s m below meth c ls F hr hlocks C hl
  have hl : lv_has ls 6 [(0, .ref (G.1 0))] := hl
  obtain ⟨H, eH⟩ : ∃ z9, z9 = s.heap := ⟨_, rfl⟩
  obtain ⟨locs, eL⟩ : ∃ z9 : List Loc, z9 = [] := ⟨_, rfl⟩
  rw [← eH, ← eL] at C
  rw [← eH, ← eL]
  refine lv_iconst (v := 0) F.1 F.2.1 dX12_move_0 (by decide) ?_
  refine lv_istore_n (lv' := [(1, .int 0), (0, .ref (G.1 0))]) F.1 F.2.1 dX12_move_1 rfl hl (by decide) rfl (fun ls hl => ?_)
  obtain ⟨n23, h⟩ := h
  exact tX12_move_2 l G F hr hlocks Q n23 0 μ H locs ls h C (lv_sub hl [1, 0] rfl)
section
variable {p : Program} {l : Launch} {e : Env} {R : Room} {s : State} {m : MethodId} {args : Array Value} {below : List Frame} {meth : Method} {c : Code} {H : Heap} {locs : List Loc} {Q : State → Prop}
variable {cc : ByteArray} {pc nL : Nat} {ls : Array Slot} {rest : List Value} {G : km_G} {μ : km_S}
theorem kc_X12_move (F : CallFix p m c cc nL s args kt_ RX12) (C : km_X G s H locs μ) {P : km_S → Prop} (h : wX12_move μ P) (h1 : (5) + 1 ≤ R.frames) (h2 : 8 + (6 + 11) + (124) ≤ R.locals) (hsz : ls.size = nL) (hW : (rest.map fun v => v.category).sum ≤ 8) (hdg : decode cc pc = .ok (.invokevirtual 366, 3)) (kk : ∀ (μ' : km_S) (H1 : Heap) (locs1 : List Loc), P μ' → km_X G s H1 locs1 μ' → W p l e R s m args below meth c H1 locs1 0 0 Q (F0 m (pc + 3) ls rest)) : W p l e R s m args below meth c H locs 0 0 Q (F0 m pc ls (.ref (G.1 0) :: rest)) :=
  km_cVv (n := 0) (As := []) F C (hc_X12_move l G μ P h) (kt_V tw_236 tw_237 tw_238 tw_151 tw_239) (by decide +kernel) ⟨h1, h2⟩ rfl hsz hW hdg kk
end
theorem dX12_jams_0 : decode cX12_jams 0 = .ok (.iconst 0, 1) := by decide +kernel
theorem dX12_jams_1 : decode cX12_jams 1 = .ok (.istore_n 1, 1) := by decide +kernel
theorem dX12_jams_2 : decode cX12_jams 2 = .ok (.iload_n 1, 1) := by decide +kernel
theorem dX12_jams_3 : decode cX12_jams 3 = .ok (.aload_n 0, 1) := by decide +kernel
theorem dX12_jams_4 : decode cX12_jams 4 = .ok (.getfield 176, 3) := by decide +kernel
theorem dX12_jams_7 : decode cX12_jams 7 = .ok (.if_icmp .ge 72, 3) := by decide +kernel
theorem dX12_jams_10 : decode cX12_jams 10 = .ok (.iconst 0, 1) := by decide +kernel
theorem dX12_jams_11 : decode cX12_jams 11 = .ok (.istore_n 2, 1) := by decide +kernel
theorem dX12_jams_12 : decode cX12_jams 12 = .ok (.iload_n 2, 1) := by decide +kernel
theorem dX12_jams_13 : decode cX12_jams 13 = .ok (.aload_n 0, 1) := by decide +kernel
theorem dX12_jams_14 : decode cX12_jams 14 = .ok (.getfield 37, 3) := by decide +kernel
theorem dX12_jams_17 : decode cX12_jams 17 = .ok (.iload_n 1, 1) := by decide +kernel
theorem dX12_jams_18 : decode cX12_jams 18 = .ok (.iaload, 1) := by decide +kernel
theorem dX12_jams_19 : decode cX12_jams 19 = .ok (.if_icmp .ge 54, 3) := by decide +kernel
theorem dX12_jams_22 : decode cX12_jams 22 = .ok (.aload_n 0, 1) := by decide +kernel
theorem dX12_jams_23 : decode cX12_jams 23 = .ok (.getfield 89, 3) := by decide +kernel
theorem dX12_jams_26 : decode cX12_jams 26 = .ok (.iload_n 1, 1) := by decide +kernel
theorem dX12_jams_27 : decode cX12_jams 27 = .ok (.iload_n 2, 1) := by decide +kernel
theorem dX12_jams_28 : decode cX12_jams 28 = .ok (.invokestatic 307, 3) := by decide +kernel
theorem dX12_jams_31 : decode cX12_jams 31 = .ok (.iaload, 1) := by decide +kernel
theorem dX12_jams_32 : decode cX12_jams 32 = .ok (.aload_n 0, 1) := by decide +kernel
theorem dX12_jams_33 : decode cX12_jams 33 = .ok (.getfield 40, 3) := by decide +kernel
theorem dX12_jams_36 : decode cX12_jams 36 = .ok (.iload_n 1, 1) := by decide +kernel
theorem dX12_jams_37 : decode cX12_jams 37 = .ok (.iaload, 1) := by decide +kernel
theorem dX12_jams_38 : decode cX12_jams 38 = .ok (.if_icmp .ne 29, 3) := by decide +kernel
theorem dX12_jams_41 : decode cX12_jams 41 = .ok (.aload_n 0, 1) := by decide +kernel
theorem dX12_jams_42 : decode cX12_jams 42 = .ok (.getfield 49, 3) := by decide +kernel
theorem dX12_jams_45 : decode cX12_jams 45 = .ok (.iload_n 1, 1) := by decide +kernel
theorem dX12_jams_46 : decode cX12_jams 46 = .ok (.iaload, 1) := by decide +kernel
theorem dX12_jams_47 : decode cX12_jams 47 = .ok (.aload_n 0, 1) := by decide +kernel
theorem dX12_jams_48 : decode cX12_jams 48 = .ok (.getfield 43, 3) := by decide +kernel
theorem dX12_jams_51 : decode cX12_jams 51 = .ok (.iload_n 1, 1) := by decide +kernel
theorem dX12_jams_52 : decode cX12_jams 52 = .ok (.iaload, 1) := by decide +kernel
theorem dX12_jams_53 : decode cX12_jams 53 = .ok (.if_icmp .ge 14, 3) := by decide +kernel
theorem dX12_jams_56 : decode cX12_jams 56 = .ok (.aload_n 0, 1) := by decide +kernel
theorem dX12_jams_57 : decode cX12_jams 57 = .ok (.getfield 95, 3) := by decide +kernel
theorem dX12_jams_60 : decode cX12_jams 60 = .ok (.iload_n 1, 1) := by decide +kernel
theorem dX12_jams_61 : decode cX12_jams 61 = .ok (.iload_n 2, 1) := by decide +kernel
theorem dX12_jams_62 : decode cX12_jams 62 = .ok (.invokestatic 307, 3) := by decide +kernel
theorem dX12_jams_65 : decode cX12_jams 65 = .ok (.iconst 1, 1) := by decide +kernel
theorem dX12_jams_66 : decode cX12_jams 66 = .ok (.bastore, 1) := by decide +kernel
theorem dX12_jams_67 : decode cX12_jams 67 = .ok (.iinc 2 1, 3) := by decide +kernel
theorem dX12_jams_70 : decode cX12_jams 70 = .ok (.goto (-58), 3) := by decide +kernel
theorem dX12_jams_73 : decode cX12_jams 73 = .ok (.iinc 1 1, 3) := by decide +kernel
theorem dX12_jams_76 : decode cX12_jams 76 = .ok (.goto (-74), 3) := by decide +kernel
theorem dX12_jams_79 : decode cX12_jams 79 = .ok (.iconst 0, 1) := by decide +kernel
theorem dX12_jams_80 : decode cX12_jams 80 = .ok (.istore_n 1, 1) := by decide +kernel
theorem dX12_jams_81 : decode cX12_jams 81 = .ok (.iload_n 1, 1) := by decide +kernel
theorem dX12_jams_82 : decode cX12_jams 82 = .ok (.aload_n 0, 1) := by decide +kernel
theorem dX12_jams_83 : decode cX12_jams 83 = .ok (.getfield 189, 3) := by decide +kernel
theorem dX12_jams_86 : decode cX12_jams 86 = .ok (.if_icmp .ge 125, 3) := by decide +kernel
theorem dX12_jams_89 : decode cX12_jams 89 = .ok (.aload_n 0, 1) := by decide +kernel
theorem dX12_jams_90 : decode cX12_jams 90 = .ok (.getfield 124, 3) := by decide +kernel
theorem dX12_jams_93 : decode cX12_jams 93 = .ok (.iload_n 1, 1) := by decide +kernel
theorem dX12_jams_94 : decode cX12_jams 94 = .ok (.iaload, 1) := by decide +kernel
theorem dX12_jams_95 : decode cX12_jams 95 = .ok (.istore_n 2, 1) := by decide +kernel
theorem dX12_jams_96 : decode cX12_jams 96 = .ok (.iconst (-1), 1) := by decide +kernel
theorem dX12_jams_97 : decode cX12_jams 97 = .ok (.istore_n 3, 1) := by decide +kernel
theorem dX12_jams_98 : decode cX12_jams 98 = .ok (.iconst 0, 1) := by decide +kernel
theorem dX12_jams_99 : decode cX12_jams 99 = .ok (.istore 4, 2) := by decide +kernel
theorem dX12_jams_101 : decode cX12_jams 101 = .ok (.iload 4, 2) := by decide +kernel
theorem dX12_jams_103 : decode cX12_jams 103 = .ok (.aload_n 0, 1) := by decide +kernel
theorem dX12_jams_104 : decode cX12_jams 104 = .ok (.getfield 37, 3) := by decide +kernel
theorem dX12_jams_107 : decode cX12_jams 107 = .ok (.iload_n 2, 1) := by decide +kernel
theorem dX12_jams_108 : decode cX12_jams 108 = .ok (.iaload, 1) := by decide +kernel
theorem dX12_jams_109 : decode cX12_jams 109 = .ok (.if_icmp .ge 26, 3) := by decide +kernel
theorem dX12_jams_112 : decode cX12_jams 112 = .ok (.aload_n 0, 1) := by decide +kernel
theorem dX12_jams_113 : decode cX12_jams 113 = .ok (.getfield 95, 3) := by decide +kernel
theorem dX12_jams_116 : decode cX12_jams 116 = .ok (.iload_n 2, 1) := by decide +kernel
theorem dX12_jams_117 : decode cX12_jams 117 = .ok (.iload 4, 2) := by decide +kernel
theorem dX12_jams_119 : decode cX12_jams 119 = .ok (.invokestatic 307, 3) := by decide +kernel
theorem dX12_jams_122 : decode cX12_jams 122 = .ok (.baload, 1) := by decide +kernel
theorem dX12_jams_123 : decode cX12_jams 123 = .ok (.ifCond .eq 6, 3) := by decide +kernel
theorem dX12_jams_126 : decode cX12_jams 126 = .ok (.iload 4, 2) := by decide +kernel
theorem dX12_jams_128 : decode cX12_jams 128 = .ok (.istore_n 3, 1) := by decide +kernel
theorem dX12_jams_129 : decode cX12_jams 129 = .ok (.iinc 4 1, 3) := by decide +kernel
theorem dX12_jams_132 : decode cX12_jams 132 = .ok (.goto (-31), 3) := by decide +kernel
theorem dX12_jams_135 : decode cX12_jams 135 = .ok (.iload_n 3, 1) := by decide +kernel
theorem dX12_jams_136 : decode cX12_jams 136 = .ok (.iconst (-1), 1) := by decide +kernel
theorem dX12_jams_137 : decode cX12_jams 137 = .ok (.if_icmp .eq 68, 3) := by decide +kernel
theorem dX12_jams_140 : decode cX12_jams 140 = .ok (.aload_n 0, 1) := by decide +kernel
theorem dX12_jams_141 : decode cX12_jams 141 = .ok (.getfield 127, 3) := by decide +kernel
theorem dX12_jams_144 : decode cX12_jams 144 = .ok (.iload_n 1, 1) := by decide +kernel
theorem dX12_jams_145 : decode cX12_jams 145 = .ok (.iaload, 1) := by decide +kernel
theorem dX12_jams_146 : decode cX12_jams 146 = .ok (.aload_n 0, 1) := by decide +kernel
theorem dX12_jams_147 : decode cX12_jams 147 = .ok (.getfield 192, 3) := by decide +kernel
theorem dX12_jams_150 : decode cX12_jams 150 = .ok (.iconst 1, 1) := by decide +kernel
theorem dX12_jams_151 : decode cX12_jams 151 = .ok (.isub, 1) := by decide +kernel
theorem dX12_jams_152 : decode cX12_jams 152 = .ok (.if_icmp .gt 53, 3) := by decide +kernel
theorem dX12_jams_155 : decode cX12_jams 155 = .ok (.aload_n 0, 1) := by decide +kernel
theorem dX12_jams_156 : decode cX12_jams 156 = .ok (.getfield 130, 3) := by decide +kernel
theorem dX12_jams_159 : decode cX12_jams 159 = .ok (.iload_n 1, 1) := by decide +kernel
theorem dX12_jams_160 : decode cX12_jams 160 = .ok (.iaload, 1) := by decide +kernel
theorem dX12_jams_161 : decode cX12_jams 161 = .ok (.aload_n 0, 1) := by decide +kernel
theorem dX12_jams_162 : decode cX12_jams 162 = .ok (.getfield 192, 3) := by decide +kernel
theorem dX12_jams_165 : decode cX12_jams 165 = .ok (.iconst 1, 1) := by decide +kernel
theorem dX12_jams_166 : decode cX12_jams 166 = .ok (.isub, 1) := by decide +kernel
theorem dX12_jams_167 : decode cX12_jams 167 = .ok (.if_icmp .ne 6, 3) := by decide +kernel
theorem dX12_jams_170 : decode cX12_jams 170 = .ok (.goto 35, 3) := by decide +kernel
theorem dX12_jams_173 : decode cX12_jams 173 = .ok (.aload_n 0, 1) := by decide +kernel
theorem dX12_jams_174 : decode cX12_jams 174 = .ok (.getfield 95, 3) := by decide +kernel
theorem dX12_jams_177 : decode cX12_jams 177 = .ok (.iload_n 2, 1) := by decide +kernel
theorem dX12_jams_178 : decode cX12_jams 178 = .ok (.iload_n 3, 1) := by decide +kernel
theorem dX12_jams_179 : decode cX12_jams 179 = .ok (.invokestatic 307, 3) := by decide +kernel
theorem dX12_jams_182 : decode cX12_jams 182 = .ok (.iconst 0, 1) := by decide +kernel
theorem dX12_jams_183 : decode cX12_jams 183 = .ok (.bastore, 1) := by decide +kernel
theorem dX12_jams_184 : decode cX12_jams 184 = .ok (.aload_n 0, 1) := by decide +kernel
theorem dX12_jams_185 : decode cX12_jams 185 = .ok (.getfield 98, 3) := by decide +kernel
theorem dX12_jams_188 : decode cX12_jams 188 = .ok (.iload_n 2, 1) := by decide +kernel
theorem dX12_jams_189 : decode cX12_jams 189 = .ok (.iload_n 3, 1) := by decide +kernel
theorem dX12_jams_190 : decode cX12_jams 190 = .ok (.invokestatic 307, 3) := by decide +kernel
theorem dX12_jams_193 : decode cX12_jams 193 = .ok (.iconst 0, 1) := by decide +kernel
theorem dX12_jams_194 : decode cX12_jams 194 = .ok (.bastore, 1) := by decide +kernel
theorem dX12_jams_195 : decode cX12_jams 195 = .ok (.aload_n 0, 1) := by decide +kernel
theorem dX12_jams_196 : decode cX12_jams 196 = .ok (.getfield 130, 3) := by decide +kernel
theorem dX12_jams_199 : decode cX12_jams 199 = .ok (.iload_n 1, 1) := by decide +kernel
theorem dX12_jams_200 : decode cX12_jams 200 = .ok (.aload_n 0, 1) := by decide +kernel
theorem dX12_jams_201 : decode cX12_jams 201 = .ok (.getfield 192, 3) := by decide +kernel
theorem dX12_jams_204 : decode cX12_jams 204 = .ok (.iastore, 1) := by decide +kernel
theorem dX12_jams_205 : decode cX12_jams 205 = .ok (.iinc 1 1, 3) := by decide +kernel
theorem dX12_jams_208 : decode cX12_jams 208 = .ok (.goto (-127), 3) := by decide +kernel
theorem dX12_jams_211 : decode cX12_jams 211 = .ok (.iconst 0, 1) := by decide +kernel
theorem dX12_jams_212 : decode cX12_jams 212 = .ok (.istore_n 1, 1) := by decide +kernel
theorem dX12_jams_213 : decode cX12_jams 213 = .ok (.iload_n 1, 1) := by decide +kernel
theorem dX12_jams_214 : decode cX12_jams 214 = .ok (.aload_n 0, 1) := by decide +kernel
theorem dX12_jams_215 : decode cX12_jams 215 = .ok (.getfield 176, 3) := by decide +kernel
theorem dX12_jams_218 : decode cX12_jams 218 = .ok (.if_icmp .ge 90, 3) := by decide +kernel
theorem dX12_jams_221 : decode cX12_jams 221 = .ok (.aload_n 0, 1) := by decide +kernel
theorem dX12_jams_222 : decode cX12_jams 222 = .ok (.getfield 65, 3) := by decide +kernel
theorem dX12_jams_225 : decode cX12_jams 225 = .ok (.iload_n 1, 1) := by decide +kernel
theorem dX12_jams_226 : decode cX12_jams 226 = .ok (.baload, 1) := by decide +kernel
theorem dX12_jams_227 : decode cX12_jams 227 = .ok (.istore_n 2, 1) := by decide +kernel
theorem dX12_jams_228 : decode cX12_jams 228 = .ok (.iconst 0, 1) := by decide +kernel
theorem dX12_jams_229 : decode cX12_jams 229 = .ok (.istore_n 3, 1) := by decide +kernel
theorem dX12_jams_230 : decode cX12_jams 230 = .ok (.iload_n 3, 1) := by decide +kernel
theorem dX12_jams_231 : decode cX12_jams 231 = .ok (.aload_n 0, 1) := by decide +kernel
theorem dX12_jams_232 : decode cX12_jams 232 = .ok (.getfield 189, 3) := by decide +kernel
theorem dX12_jams_235 : decode cX12_jams 235 = .ok (.if_icmp .ge 21, 3) := by decide +kernel
theorem dX12_jams_238 : decode cX12_jams 238 = .ok (.aload_n 0, 1) := by decide +kernel
theorem dX12_jams_239 : decode cX12_jams 239 = .ok (.getfield 124, 3) := by decide +kernel
theorem dX12_jams_242 : decode cX12_jams 242 = .ok (.iload_n 3, 1) := by decide +kernel
theorem dX12_jams_243 : decode cX12_jams 243 = .ok (.iaload, 1) := by decide +kernel
theorem dX12_jams_244 : decode cX12_jams 244 = .ok (.iload_n 1, 1) := by decide +kernel
theorem dX12_jams_245 : decode cX12_jams 245 = .ok (.if_icmp .ne 5, 3) := by decide +kernel
theorem dX12_jams_248 : decode cX12_jams 248 = .ok (.iconst 1, 1) := by decide +kernel
theorem dX12_jams_249 : decode cX12_jams 249 = .ok (.istore_n 2, 1) := by decide +kernel
theorem dX12_jams_250 : decode cX12_jams 250 = .ok (.iinc 3 1, 3) := by decide +kernel
theorem dX12_jams_253 : decode cX12_jams 253 = .ok (.goto (-23), 3) := by decide +kernel
theorem dX12_jams_256 : decode cX12_jams 256 = .ok (.iconst 0, 1) := by decide +kernel
theorem dX12_jams_257 : decode cX12_jams 257 = .ok (.istore_n 3, 1) := by decide +kernel
theorem dX12_jams_258 : decode cX12_jams 258 = .ok (.iload_n 3, 1) := by decide +kernel
theorem dX12_jams_259 : decode cX12_jams 259 = .ok (.aload_n 0, 1) := by decide +kernel
theorem dX12_jams_260 : decode cX12_jams 260 = .ok (.getfield 37, 3) := by decide +kernel
theorem dX12_jams_263 : decode cX12_jams 263 = .ok (.iload_n 1, 1) := by decide +kernel
theorem dX12_jams_264 : decode cX12_jams 264 = .ok (.iaload, 1) := by decide +kernel
theorem dX12_jams_265 : decode cX12_jams 265 = .ok (.if_icmp .ge 37, 3) := by decide +kernel
theorem dX12_jams_268 : decode cX12_jams 268 = .ok (.iload_n 2, 1) := by decide +kernel
theorem dX12_jams_269 : decode cX12_jams 269 = .ok (.ifCond .eq 33, 3) := by decide +kernel
theorem dX12_jams_272 : decode cX12_jams 272 = .ok (.aload_n 0, 1) := by decide +kernel
theorem dX12_jams_273 : decode cX12_jams 273 = .ok (.getfield 95, 3) := by decide +kernel
theorem dX12_jams_276 : decode cX12_jams 276 = .ok (.iload_n 1, 1) := by decide +kernel
theorem dX12_jams_277 : decode cX12_jams 277 = .ok (.iload_n 3, 1) := by decide +kernel
theorem dX12_jams_278 : decode cX12_jams 278 = .ok (.invokestatic 307, 3) := by decide +kernel
theorem dX12_jams_281 : decode cX12_jams 281 = .ok (.baload, 1) := by decide +kernel
theorem dX12_jams_282 : decode cX12_jams 282 = .ok (.ifCond .eq 14, 3) := by decide +kernel
theorem dX12_jams_285 : decode cX12_jams 285 = .ok (.aload_n 0, 1) := by decide +kernel
theorem dX12_jams_286 : decode cX12_jams 286 = .ok (.getfield 98, 3) := by decide +kernel
theorem dX12_jams_289 : decode cX12_jams 289 = .ok (.iload_n 1, 1) := by decide +kernel
theorem dX12_jams_290 : decode cX12_jams 290 = .ok (.iload_n 3, 1) := by decide +kernel
theorem dX12_jams_291 : decode cX12_jams 291 = .ok (.invokestatic 307, 3) := by decide +kernel
theorem dX12_jams_294 : decode cX12_jams 294 = .ok (.iconst 1, 1) := by decide +kernel
theorem dX12_jams_295 : decode cX12_jams 295 = .ok (.bastore, 1) := by decide +kernel
theorem dX12_jams_296 : decode cX12_jams 296 = .ok (.iinc 3 1, 3) := by decide +kernel
theorem dX12_jams_299 : decode cX12_jams 299 = .ok (.goto (-41), 3) := by decide +kernel
theorem dX12_jams_302 : decode cX12_jams 302 = .ok (.iinc 1 1, 3) := by decide +kernel
theorem dX12_jams_305 : decode cX12_jams 305 = .ok (.goto (-92), 3) := by decide +kernel
theorem dX12_jams_308 : decode cX12_jams 308 = .ok (.return_, 1) := by decide +kernel
def wX12_jams_302 (k213 : Int32 → km_S → Prop) (Q : km_S → Prop) (l1 : Int32) (μ : km_S) : Prop := ∀ v1 : Int32, v1 = l1 + 1 → k213 v1 μ
def wX12_jams_296 (k258 : Int32 → Int32 → Int32 → km_S → Prop) (Q : km_S → Prop) (l1 : Int32) (l2 : Int32) (l3 : Int32) (μ : km_S) : Prop := ∀ v2 : Int32, v2 = l3 + 1 → k258 l1 l2 v2 μ
def wX12_jams_250 (k230 : Int32 → Int32 → Int32 → km_S → Prop) (Q : km_S → Prop) (l1 : Int32) (l2 : Int32) (l3 : Int32) (μ : km_S) : Prop := ∀ v3 : Int32, v3 = l3 + 1 → k230 l1 l2 v3 μ
def wX12_jams_205 (k81 : Int32 → km_S → Prop) (Q : km_S → Prop) (l1 : Int32) (μ : km_S) : Prop := ∀ v4 : Int32, v4 = l1 + 1 → k81 v4 μ
def wX12_jams_129 (k101 : Int32 → Int32 → Int32 → Int32 → km_S → Prop) (Q : km_S → Prop) (l1 : Int32) (l2 : Int32) (l3 : Int32) (l4 : Int32) (μ : km_S) : Prop := ∀ v5 : Int32, v5 = l4 + 1 → k101 l1 l2 l3 v5 μ
def wX12_jams_73 (k2 : Int32 → km_S → Prop) (Q : km_S → Prop) (l1 : Int32) (μ : km_S) : Prop := ∀ v6 : Int32, v6 = l1 + 1 → k2 v6 μ
def wX12_jams_67 (k12 : Int32 → Int32 → km_S → Prop) (Q : km_S → Prop) (l1 : Int32) (l2 : Int32) (μ : km_S) : Prop := ∀ v7 : Int32, v7 = l2 + 1 → k12 l1 v7 μ
def wX12_jams_230 (k256 : Int32 → Int32 → km_S → Prop) (Q : km_S → Prop) : Nat → Int32 → Int32 → Int32 → km_S → Prop
  | 0, _, _, _, _ => False
  | n + 1, l1, l2, l3, μ => (((km_i μ 7) ≤ l3 → k256 l1 l2 μ) ∧
    (¬ ((km_i μ 7) ≤ l3) → vp_in l3 6 ∧ ((¬ (km_a μ 44 l3.toNatClampNeg) = l1 → wX12_jams_250 (wX12_jams_230 k256 Q n) Q l1 l2 l3 μ) ∧
      ((km_a μ 44 l3.toNatClampNeg) = l1 → wX12_jams_250 (wX12_jams_230 k256 Q n) Q l1 1 l3 μ))))
def wX12_jams_101 (k135 : Int32 → Int32 → Int32 → km_S → Prop) (Q : km_S → Prop) : Nat → Int32 → Int32 → Int32 → Int32 → km_S → Prop
  | 0, _, _, _, _, _ => False
  | n + 1, l1, l2, l3, l4, μ => vp_in l2 10 ∧ (((km_a μ 14 l2.toNatClampNeg) ≤ l4 → k135 l1 l2 l3 μ) ∧
    (¬ ((km_a μ 14 l2.toNatClampNeg) ≤ l4) → wX12_at0 l2 l4 μ fun r14 μ13 => vp_in r14 120 ∧ (((km_a μ13 33 r14.toNatClampNeg) = 0 → wX12_jams_129 (wX12_jams_101 k135 Q n) Q l1 l2 l3 l4 μ13) ∧
      (¬ ((km_a μ13 33 r14.toNatClampNeg) = 0) → wX12_jams_129 (wX12_jams_101 k135 Q n) Q l1 l2 l4 l4 μ13))))
def wX12_jams_258 (k302 : Int32 → km_S → Prop) (Q : km_S → Prop) : Nat → Int32 → Int32 → Int32 → km_S → Prop
  | 0, _, _, _, _ => False
  | n + 1, l1, l2, l3, μ => vp_in l1 10 ∧ (((km_a μ 14 l1.toNatClampNeg) ≤ l3 → k302 l1 μ) ∧
    (¬ ((km_a μ 14 l1.toNatClampNeg) ≤ l3) → ((l2 = 0 → k302 l1 μ) ∧
      (¬ (l2 = 0) → wX12_at0 l1 l3 μ fun r21 μ20 => vp_in r21 120 ∧ (((km_a μ20 33 r21.toNatClampNeg) = 0 → wX12_jams_296 (wX12_jams_258 k302 Q n) Q l1 l2 l3 μ20) ∧
        (¬ ((km_a μ20 33 r21.toNatClampNeg) = 0) → wX12_at0 l1 l3 μ20 fun r25 μ24 => vp_in r25 120 ∧ ∀ μ27, μ27 = km_sa μ24 34 r25.toNatClampNeg (vp_nar .boolean 1) → wX12_jams_296 (wX12_jams_258 k302 Q n) Q l1 l2 l3 μ27))))))
def wX12_jams_256 (k213 : Int32 → km_S → Prop) (Q : km_S → Prop) (l1 : Int32) (l2 : Int32) (μ : km_S) : Prop := ∃ j, wX12_jams_258 (wX12_jams_302 k213 Q) Q j l1 l2 0 μ
def wX12_jams_12 (k73 : Int32 → km_S → Prop) (Q : km_S → Prop) : Nat → Int32 → Int32 → km_S → Prop
  | 0, _, _, _ => False
  | n + 1, l1, l2, μ => vp_in l1 10 ∧ (((km_a μ 14 l1.toNatClampNeg) ≤ l2 → k73 l1 μ) ∧
    (¬ ((km_a μ 14 l1.toNatClampNeg) ≤ l2) → wX12_at0 l1 l2 μ fun r32 μ31 => vp_in r32 120 ∧ vp_in l1 10 ∧ ((¬ (km_a μ31 31 r32.toNatClampNeg) = (km_a μ31 15 l1.toNatClampNeg) → wX12_jams_67 (wX12_jams_12 k73 Q n) Q l1 l2 μ31) ∧
      ((km_a μ31 31 r32.toNatClampNeg) = (km_a μ31 15 l1.toNatClampNeg) → vp_in l1 10 ∧ vp_in l1 10 ∧ (((km_a μ31 16 l1.toNatClampNeg) ≤ (km_a μ31 18 l1.toNatClampNeg) → wX12_jams_67 (wX12_jams_12 k73 Q n) Q l1 l2 μ31) ∧
        (¬ ((km_a μ31 16 l1.toNatClampNeg) ≤ (km_a μ31 18 l1.toNatClampNeg)) → wX12_at0 l1 l2 μ31 fun r40 μ39 => vp_in r40 120 ∧ ∀ μ42, μ42 = km_sa μ39 33 r40.toNatClampNeg (vp_nar .boolean 1) → wX12_jams_67 (wX12_jams_12 k73 Q n) Q l1 l2 μ42))))))
def wX12_jams_2 (k79 : km_S → Prop) (Q : km_S → Prop) : Nat → Int32 → km_S → Prop
  | 0, _, _ => False
  | n + 1, l1, μ => (((km_i μ 3) ≤ l1 → k79 μ) ∧
    (¬ ((km_i μ 3) ≤ l1) → ∃ j, wX12_jams_12 (wX12_jams_73 (wX12_jams_2 k79 Q n) Q) Q j l1 0 μ))
def wX12_jams_135 (k81 : Int32 → km_S → Prop) (Q : km_S → Prop) (l1 : Int32) (l2 : Int32) (l3 : Int32) (μ : km_S) : Prop := ((l3 = (-1) → wX12_jams_205 k81 Q l1 μ) ∧
  (¬ (l3 = (-1)) → vp_in l1 6 ∧ ((((km_i μ 2) - 1) < (km_a μ 45 l1.toNatClampNeg) → wX12_jams_205 k81 Q l1 μ) ∧
    (¬ (((km_i μ 2) - 1) < (km_a μ 45 l1.toNatClampNeg)) → vp_in l1 6 ∧ ((¬ (km_a μ 46 l1.toNatClampNeg) = ((km_i μ 2) - 1) → wX12_at0 l2 l3 μ fun r51 μ50 => vp_in r51 120 ∧ ∀ μ53, μ53 = km_sa μ50 33 r51.toNatClampNeg (vp_nar .boolean 0) → wX12_at0 l2 l3 μ53 fun r55 μ54 => vp_in r55 120 ∧ ∀ μ57, μ57 = km_sa μ54 34 r55.toNatClampNeg (vp_nar .boolean 0) → vp_in l1 6 ∧ ∀ μ59, μ59 = km_sa μ57 46 l1.toNatClampNeg (km_i μ57 2) → wX12_jams_205 k81 Q l1 μ59) ∧
      ((km_a μ 46 l1.toNatClampNeg) = ((km_i μ 2) - 1) → wX12_jams_205 k81 Q l1 μ))))))
def wX12_jams_213 (Q : km_S → Prop) : Nat → Int32 → km_S → Prop
  | 0, _, _ => False
  | n + 1, l1, μ => (((km_i μ 3) ≤ l1 → Q μ) ∧
    (¬ ((km_i μ 3) ≤ l1) → vp_in l1 10 ∧ ∀ v62, v62 = km_a μ 23 l1.toNatClampNeg → ∃ j, wX12_jams_230 (wX12_jams_256 (wX12_jams_213 Q n) Q) Q j l1 v62 0 μ))
def wX12_jams_211 (Q : km_S → Prop) (μ : km_S) : Prop := ∃ j, wX12_jams_213 Q j 0 μ
def wX12_jams_81 (k211 : km_S → Prop) (Q : km_S → Prop) : Nat → Int32 → km_S → Prop
  | 0, _, _ => False
  | n + 1, l1, μ => (((km_i μ 7) ≤ l1 → k211 μ) ∧
    (¬ ((km_i μ 7) ≤ l1) → vp_in l1 6 ∧ ∀ v67, v67 = km_a μ 44 l1.toNatClampNeg → ∃ j, wX12_jams_101 (wX12_jams_135 (wX12_jams_81 k211 Q n) Q) Q j l1 v67 (-1) 0 μ))
def wX12_jams_79 (Q : km_S → Prop) (μ : km_S) : Prop := ∃ j, wX12_jams_81 (wX12_jams_211 Q) Q j 0 μ
def wX12_jams (μ : km_S) (Q : km_S → Prop) : Prop := ∃ j, wX12_jams_2 (wX12_jams_79 Q) Q j 0 μ
set_option maxRecDepth 100000 in
set_option maxHeartbeats 4000000 in
theorem tX12_jams_302 (l : Launch) (G : km_G) {p : Program} {e : Env} {s : State} {m : MethodId} {args : Array Value} {below : List Frame} {meth : Method} {c : Code} (F : CallFix p m c cX12_jams 5 s args kt_ RX12) (hr : meth.sig.returnType = none) (hlocks : meth.locks = false) (Q : km_S → Prop) (k213 : Int32 → km_S → Prop) (hk213 : ∀ (l1 : Int32) (μ : km_S) (H : Heap) (locs : List Loc) (ls : Array Slot), k213 l1 μ → km_X G s H locs μ → lv_has ls 5 [(0, .ref (G.1 0)), (1, .int l1)] → W p l e { frames := 1, cells := 0, slots := 0, locals := 21 } s m args below meth c H locs 0 0 (MQ below (km_Qv G Q) args s 0 0 (km_A G)) (F0 m 213 ls [])) : ∀ (l1 : Int32) (μ : km_S) (H : Heap) (locs : List Loc) (ls : Array Slot), wX12_jams_302 k213 Q l1 μ → km_X G s H locs μ → lv_has ls 5 [(0, .ref (G.1 0)), (1, .int l1)] → W p l e { frames := 1, cells := 0, slots := 0, locals := 21 } s m args below meth c H locs 0 0 (MQ below (km_Qv G Q) args s 0 0 (km_A G)) (F0 m 302 ls []) := by
  intro l1 μ H locs ls h C hl
  obtain ⟨v1, ev1⟩ : ∃ z9 : Int32, z9 = l1 + 1 := ⟨_, rfl⟩
  have h := h v1 ev1
  refine lv_iinc (v := v1) (lv' := [(1, .int v1), (0, .ref (G.1 0))]) F.1 F.2.1 dX12_jams_302 hl (k := 1) rfl (by rw [ev1]; rfl) (by decide) rfl (fun ls hl => ?_)
  refine lv_goto (tgt := 213) F.1 F.2.1 dX12_jams_305 (by decide) ?_
  exact hk213 v1 μ H locs ls h C (lv_sub hl [1, 0] rfl)
set_option maxRecDepth 100000 in
set_option maxHeartbeats 4000000 in
theorem tX12_jams_296 (l : Launch) (G : km_G) {p : Program} {e : Env} {s : State} {m : MethodId} {args : Array Value} {below : List Frame} {meth : Method} {c : Code} (F : CallFix p m c cX12_jams 5 s args kt_ RX12) (hr : meth.sig.returnType = none) (hlocks : meth.locks = false) (Q : km_S → Prop) (k258 : Int32 → Int32 → Int32 → km_S → Prop) (hk258 : ∀ (l1 : Int32) (l2 : Int32) (l3 : Int32) (μ : km_S) (H : Heap) (locs : List Loc) (ls : Array Slot), k258 l1 l2 l3 μ → km_X G s H locs μ → lv_has ls 5 [(0, .ref (G.1 0)), (1, .int l1), (2, .int l2), (3, .int l3)] → W p l e { frames := 1, cells := 0, slots := 0, locals := 21 } s m args below meth c H locs 0 0 (MQ below (km_Qv G Q) args s 0 0 (km_A G)) (F0 m 258 ls [])) : ∀ (l1 : Int32) (l2 : Int32) (l3 : Int32) (μ : km_S) (H : Heap) (locs : List Loc) (ls : Array Slot), wX12_jams_296 k258 Q l1 l2 l3 μ → km_X G s H locs μ → lv_has ls 5 [(0, .ref (G.1 0)), (1, .int l1), (2, .int l2), (3, .int l3)] → W p l e { frames := 1, cells := 0, slots := 0, locals := 21 } s m args below meth c H locs 0 0 (MQ below (km_Qv G Q) args s 0 0 (km_A G)) (F0 m 296 ls []) := by
  intro l1 l2 l3 μ H locs ls h C hl
  obtain ⟨v2, ev2⟩ : ∃ z9 : Int32, z9 = l3 + 1 := ⟨_, rfl⟩
  have h := h v2 ev2
  refine lv_iinc (v := v2) (lv' := [(3, .int v2), (0, .ref (G.1 0)), (1, .int l1), (2, .int l2)]) F.1 F.2.1 dX12_jams_296 hl (k := 3) rfl (by rw [ev2]; rfl) (by decide) rfl (fun ls hl => ?_)
  refine lv_goto (tgt := 258) F.1 F.2.1 dX12_jams_299 (by decide) ?_
  exact hk258 l1 l2 v2 μ H locs ls h C (lv_sub hl [1, 2, 3, 0] rfl)
set_option maxRecDepth 100000 in
set_option maxHeartbeats 4000000 in
theorem tX12_jams_250 (l : Launch) (G : km_G) {p : Program} {e : Env} {s : State} {m : MethodId} {args : Array Value} {below : List Frame} {meth : Method} {c : Code} (F : CallFix p m c cX12_jams 5 s args kt_ RX12) (hr : meth.sig.returnType = none) (hlocks : meth.locks = false) (Q : km_S → Prop) (k230 : Int32 → Int32 → Int32 → km_S → Prop) (hk230 : ∀ (l1 : Int32) (l2 : Int32) (l3 : Int32) (μ : km_S) (H : Heap) (locs : List Loc) (ls : Array Slot), k230 l1 l2 l3 μ → km_X G s H locs μ → lv_has ls 5 [(0, .ref (G.1 0)), (1, .int l1), (2, .int l2), (3, .int l3)] → W p l e { frames := 1, cells := 0, slots := 0, locals := 21 } s m args below meth c H locs 0 0 (MQ below (km_Qv G Q) args s 0 0 (km_A G)) (F0 m 230 ls [])) : ∀ (l1 : Int32) (l2 : Int32) (l3 : Int32) (μ : km_S) (H : Heap) (locs : List Loc) (ls : Array Slot), wX12_jams_250 k230 Q l1 l2 l3 μ → km_X G s H locs μ → lv_has ls 5 [(0, .ref (G.1 0)), (1, .int l1), (2, .int l2), (3, .int l3)] → W p l e { frames := 1, cells := 0, slots := 0, locals := 21 } s m args below meth c H locs 0 0 (MQ below (km_Qv G Q) args s 0 0 (km_A G)) (F0 m 250 ls []) := by
  intro l1 l2 l3 μ H locs ls h C hl
  obtain ⟨v3, ev3⟩ : ∃ z9 : Int32, z9 = l3 + 1 := ⟨_, rfl⟩
  have h := h v3 ev3
  refine lv_iinc (v := v3) (lv' := [(3, .int v3), (0, .ref (G.1 0)), (1, .int l1), (2, .int l2)]) F.1 F.2.1 dX12_jams_250 hl (k := 3) rfl (by rw [ev3]; rfl) (by decide) rfl (fun ls hl => ?_)
  refine lv_goto (tgt := 230) F.1 F.2.1 dX12_jams_253 (by decide) ?_
  exact hk230 l1 l2 v3 μ H locs ls h C (lv_sub hl [1, 2, 3, 0] rfl)
set_option maxRecDepth 100000 in
set_option maxHeartbeats 4000000 in
theorem tX12_jams_205 (l : Launch) (G : km_G) {p : Program} {e : Env} {s : State} {m : MethodId} {args : Array Value} {below : List Frame} {meth : Method} {c : Code} (F : CallFix p m c cX12_jams 5 s args kt_ RX12) (hr : meth.sig.returnType = none) (hlocks : meth.locks = false) (Q : km_S → Prop) (k81 : Int32 → km_S → Prop) (hk81 : ∀ (l1 : Int32) (μ : km_S) (H : Heap) (locs : List Loc) (ls : Array Slot), k81 l1 μ → km_X G s H locs μ → lv_has ls 5 [(0, .ref (G.1 0)), (1, .int l1)] → W p l e { frames := 1, cells := 0, slots := 0, locals := 21 } s m args below meth c H locs 0 0 (MQ below (km_Qv G Q) args s 0 0 (km_A G)) (F0 m 81 ls [])) : ∀ (l1 : Int32) (μ : km_S) (H : Heap) (locs : List Loc) (ls : Array Slot), wX12_jams_205 k81 Q l1 μ → km_X G s H locs μ → lv_has ls 5 [(0, .ref (G.1 0)), (1, .int l1)] → W p l e { frames := 1, cells := 0, slots := 0, locals := 21 } s m args below meth c H locs 0 0 (MQ below (km_Qv G Q) args s 0 0 (km_A G)) (F0 m 205 ls []) := by
  intro l1 μ H locs ls h C hl
  obtain ⟨v4, ev4⟩ : ∃ z9 : Int32, z9 = l1 + 1 := ⟨_, rfl⟩
  have h := h v4 ev4
  refine lv_iinc (v := v4) (lv' := [(1, .int v4), (0, .ref (G.1 0))]) F.1 F.2.1 dX12_jams_205 hl (k := 1) rfl (by rw [ev4]; rfl) (by decide) rfl (fun ls hl => ?_)
  refine lv_goto (tgt := 81) F.1 F.2.1 dX12_jams_208 (by decide) ?_
  exact hk81 v4 μ H locs ls h C (lv_sub hl [1, 0] rfl)
set_option maxRecDepth 100000 in
set_option maxHeartbeats 4000000 in
theorem tX12_jams_129 (l : Launch) (G : km_G) {p : Program} {e : Env} {s : State} {m : MethodId} {args : Array Value} {below : List Frame} {meth : Method} {c : Code} (F : CallFix p m c cX12_jams 5 s args kt_ RX12) (hr : meth.sig.returnType = none) (hlocks : meth.locks = false) (Q : km_S → Prop) (k101 : Int32 → Int32 → Int32 → Int32 → km_S → Prop) (hk101 : ∀ (l1 : Int32) (l2 : Int32) (l3 : Int32) (l4 : Int32) (μ : km_S) (H : Heap) (locs : List Loc) (ls : Array Slot), k101 l1 l2 l3 l4 μ → km_X G s H locs μ → lv_has ls 5 [(0, .ref (G.1 0)), (1, .int l1), (2, .int l2), (3, .int l3), (4, .int l4)] → W p l e { frames := 1, cells := 0, slots := 0, locals := 21 } s m args below meth c H locs 0 0 (MQ below (km_Qv G Q) args s 0 0 (km_A G)) (F0 m 101 ls [])) : ∀ (l1 : Int32) (l2 : Int32) (l3 : Int32) (l4 : Int32) (μ : km_S) (H : Heap) (locs : List Loc) (ls : Array Slot), wX12_jams_129 k101 Q l1 l2 l3 l4 μ → km_X G s H locs μ → lv_has ls 5 [(0, .ref (G.1 0)), (1, .int l1), (2, .int l2), (3, .int l3), (4, .int l4)] → W p l e { frames := 1, cells := 0, slots := 0, locals := 21 } s m args below meth c H locs 0 0 (MQ below (km_Qv G Q) args s 0 0 (km_A G)) (F0 m 129 ls []) := by
  intro l1 l2 l3 l4 μ H locs ls h C hl
  obtain ⟨v5, ev5⟩ : ∃ z9 : Int32, z9 = l4 + 1 := ⟨_, rfl⟩
  have h := h v5 ev5
  refine lv_iinc (v := v5) (lv' := [(4, .int v5), (0, .ref (G.1 0)), (1, .int l1), (2, .int l2), (3, .int l3)]) F.1 F.2.1 dX12_jams_129 hl (k := 4) rfl (by rw [ev5]; rfl) (by decide) rfl (fun ls hl => ?_)
  refine lv_goto (tgt := 101) F.1 F.2.1 dX12_jams_132 (by decide) ?_
  exact hk101 l1 l2 l3 v5 μ H locs ls h C (lv_sub hl [1, 2, 3, 4, 0] rfl)
set_option maxRecDepth 100000 in
set_option maxHeartbeats 4000000 in
theorem tX12_jams_73 (l : Launch) (G : km_G) {p : Program} {e : Env} {s : State} {m : MethodId} {args : Array Value} {below : List Frame} {meth : Method} {c : Code} (F : CallFix p m c cX12_jams 5 s args kt_ RX12) (hr : meth.sig.returnType = none) (hlocks : meth.locks = false) (Q : km_S → Prop) (k2 : Int32 → km_S → Prop) (hk2 : ∀ (l1 : Int32) (μ : km_S) (H : Heap) (locs : List Loc) (ls : Array Slot), k2 l1 μ → km_X G s H locs μ → lv_has ls 5 [(0, .ref (G.1 0)), (1, .int l1)] → W p l e { frames := 1, cells := 0, slots := 0, locals := 21 } s m args below meth c H locs 0 0 (MQ below (km_Qv G Q) args s 0 0 (km_A G)) (F0 m 2 ls [])) : ∀ (l1 : Int32) (μ : km_S) (H : Heap) (locs : List Loc) (ls : Array Slot), wX12_jams_73 k2 Q l1 μ → km_X G s H locs μ → lv_has ls 5 [(0, .ref (G.1 0)), (1, .int l1)] → W p l e { frames := 1, cells := 0, slots := 0, locals := 21 } s m args below meth c H locs 0 0 (MQ below (km_Qv G Q) args s 0 0 (km_A G)) (F0 m 73 ls []) := by
  intro l1 μ H locs ls h C hl
  obtain ⟨v6, ev6⟩ : ∃ z9 : Int32, z9 = l1 + 1 := ⟨_, rfl⟩
  have h := h v6 ev6
  refine lv_iinc (v := v6) (lv' := [(1, .int v6), (0, .ref (G.1 0))]) F.1 F.2.1 dX12_jams_73 hl (k := 1) rfl (by rw [ev6]; rfl) (by decide) rfl (fun ls hl => ?_)
  refine lv_goto (tgt := 2) F.1 F.2.1 dX12_jams_76 (by decide) ?_
  exact hk2 v6 μ H locs ls h C (lv_sub hl [1, 0] rfl)
set_option maxRecDepth 100000 in
set_option maxHeartbeats 4000000 in
theorem tX12_jams_67 (l : Launch) (G : km_G) {p : Program} {e : Env} {s : State} {m : MethodId} {args : Array Value} {below : List Frame} {meth : Method} {c : Code} (F : CallFix p m c cX12_jams 5 s args kt_ RX12) (hr : meth.sig.returnType = none) (hlocks : meth.locks = false) (Q : km_S → Prop) (k12 : Int32 → Int32 → km_S → Prop) (hk12 : ∀ (l1 : Int32) (l2 : Int32) (μ : km_S) (H : Heap) (locs : List Loc) (ls : Array Slot), k12 l1 l2 μ → km_X G s H locs μ → lv_has ls 5 [(0, .ref (G.1 0)), (1, .int l1), (2, .int l2)] → W p l e { frames := 1, cells := 0, slots := 0, locals := 21 } s m args below meth c H locs 0 0 (MQ below (km_Qv G Q) args s 0 0 (km_A G)) (F0 m 12 ls [])) : ∀ (l1 : Int32) (l2 : Int32) (μ : km_S) (H : Heap) (locs : List Loc) (ls : Array Slot), wX12_jams_67 k12 Q l1 l2 μ → km_X G s H locs μ → lv_has ls 5 [(0, .ref (G.1 0)), (1, .int l1), (2, .int l2)] → W p l e { frames := 1, cells := 0, slots := 0, locals := 21 } s m args below meth c H locs 0 0 (MQ below (km_Qv G Q) args s 0 0 (km_A G)) (F0 m 67 ls []) := by
  intro l1 l2 μ H locs ls h C hl
  obtain ⟨v7, ev7⟩ : ∃ z9 : Int32, z9 = l2 + 1 := ⟨_, rfl⟩
  have h := h v7 ev7
  refine lv_iinc (v := v7) (lv' := [(2, .int v7), (0, .ref (G.1 0)), (1, .int l1)]) F.1 F.2.1 dX12_jams_67 hl (k := 2) rfl (by rw [ev7]; rfl) (by decide) rfl (fun ls hl => ?_)
  refine lv_goto (tgt := 12) F.1 F.2.1 dX12_jams_70 (by decide) ?_
  exact hk12 l1 v7 μ H locs ls h C (lv_sub hl [1, 2, 0] rfl)
set_option maxRecDepth 100000 in
set_option maxHeartbeats 4000000 in
theorem tX12_jams_230 (l : Launch) (G : km_G) {p : Program} {e : Env} {s : State} {m : MethodId} {args : Array Value} {below : List Frame} {meth : Method} {c : Code} (F : CallFix p m c cX12_jams 5 s args kt_ RX12) (hr : meth.sig.returnType = none) (hlocks : meth.locks = false) (Q : km_S → Prop) (k256 : Int32 → Int32 → km_S → Prop) (hk256 : ∀ (l1 : Int32) (l2 : Int32) (μ : km_S) (H : Heap) (locs : List Loc) (ls : Array Slot), k256 l1 l2 μ → km_X G s H locs μ → lv_has ls 5 [(0, .ref (G.1 0)), (1, .int l1), (2, .int l2)] → W p l e { frames := 1, cells := 0, slots := 0, locals := 21 } s m args below meth c H locs 0 0 (MQ below (km_Qv G Q) args s 0 0 (km_A G)) (F0 m 256 ls [])) : ∀ (n : Nat) (l1 : Int32) (l2 : Int32) (l3 : Int32) (μ : km_S) (H : Heap) (locs : List Loc) (ls : Array Slot), wX12_jams_230 k256 Q n l1 l2 l3 μ → km_X G s H locs μ → lv_has ls 5 [(0, .ref (G.1 0)), (1, .int l1), (2, .int l2), (3, .int l3)] → W p l e { frames := 1, cells := 0, slots := 0, locals := 21 } s m args below meth c H locs 0 0 (MQ below (km_Qv G Q) args s 0 0 (km_A G)) (F0 m 230 ls []) := by
  intro n
  induction n with
  | zero => intro l1 l2 l3 μ H locs ls h; exact h.elim
  | succ n ih =>
    intro l1 l2 l3 μ H locs ls h C hl
    refine lv_iload_n F.1 F.2.1 dX12_jams_230 rfl (lv_at hl 3 rfl) ?_
    refine lv_aload_n F.1 F.2.1 dX12_jams_231 rfl (lv_at hl 0 rfl) ?_
    refine kg_crews F C dX12_jams_232 ?_
    refine lv_icmp_ge (tgt := 256) F.1 F.2.1 dX12_jams_235 (by decide) (fun c8 => ?_) (fun c8 => ?_)
    · have h := h.1 c8
      exact hk256 l1 l2 μ H locs ls h C (lv_sub hl [0, 1, 2] rfl)
    · have h := h.2 c8
      refine lv_aload_n F.1 F.2.1 dX12_jams_238 rfl (lv_at hl 0 rfl) ?_
      refine kg_crewReach F C dX12_jams_239 ?_
      refine lv_iload_n F.1 F.2.1 dX12_jams_242 rfl (lv_at hl 3 rfl) ?_
      obtain ⟨hn9, h⟩ := h
      refine kl_crewReach F C hn9 dX12_jams_243 ?_
      refine lv_iload_n F.1 F.2.1 dX12_jams_244 rfl (lv_at hl 1 rfl) ?_
      refine lv_icmp_ne (tgt := 250) F.1 F.2.1 dX12_jams_245 (by decide) (fun c10 => ?_) (fun c10 => ?_)
      · have h := h.1 c10
        exact tX12_jams_250 l G F hr hlocks Q (wX12_jams_230 k256 Q n) (fun l1 l2 l3 μ9 H locs ls h C hl => ih l1 l2 l3 μ9 H locs ls h C hl) l1 l2 l3 μ H locs ls h C (lv_sub hl [0, 1, 2, 3] rfl)
      · have h := h.2 c10
        refine lv_iconst (v := 1) F.1 F.2.1 dX12_jams_248 (by decide) ?_
        refine lv_istore_n (lv' := [(2, .int 1), (0, .ref (G.1 0)), (1, .int l1), (3, .int l3)]) F.1 F.2.1 dX12_jams_249 rfl hl (by decide) rfl (fun ls hl => ?_)
        exact tX12_jams_250 l G F hr hlocks Q (wX12_jams_230 k256 Q n) (fun l1 l2 l3 μ9 H locs ls h C hl => ih l1 l2 l3 μ9 H locs ls h C hl) l1 1 l3 μ H locs ls h C (lv_sub hl [1, 2, 0, 3] rfl)
set_option maxRecDepth 100000 in
set_option maxHeartbeats 4000000 in
theorem tX12_jams_101 (l : Launch) (G : km_G) {p : Program} {e : Env} {s : State} {m : MethodId} {args : Array Value} {below : List Frame} {meth : Method} {c : Code} (F : CallFix p m c cX12_jams 5 s args kt_ RX12) (hr : meth.sig.returnType = none) (hlocks : meth.locks = false) (Q : km_S → Prop) (k135 : Int32 → Int32 → Int32 → km_S → Prop) (hk135 : ∀ (l1 : Int32) (l2 : Int32) (l3 : Int32) (μ : km_S) (H : Heap) (locs : List Loc) (ls : Array Slot), k135 l1 l2 l3 μ → km_X G s H locs μ → lv_has ls 5 [(0, .ref (G.1 0)), (1, .int l1), (2, .int l2), (3, .int l3)] → W p l e { frames := 1, cells := 0, slots := 0, locals := 21 } s m args below meth c H locs 0 0 (MQ below (km_Qv G Q) args s 0 0 (km_A G)) (F0 m 135 ls [])) : ∀ (n : Nat) (l1 : Int32) (l2 : Int32) (l3 : Int32) (l4 : Int32) (μ : km_S) (H : Heap) (locs : List Loc) (ls : Array Slot), wX12_jams_101 k135 Q n l1 l2 l3 l4 μ → km_X G s H locs μ → lv_has ls 5 [(0, .ref (G.1 0)), (1, .int l1), (2, .int l2), (3, .int l3), (4, .int l4)] → W p l e { frames := 1, cells := 0, slots := 0, locals := 21 } s m args below meth c H locs 0 0 (MQ below (km_Qv G Q) args s 0 0 (km_A G)) (F0 m 101 ls []) := by
  intro n
  induction n with
  | zero => intro l1 l2 l3 l4 μ H locs ls h; exact h.elim
  | succ n ih =>
    intro l1 l2 l3 l4 μ H locs ls h C hl
    refine lv_iload F.1 F.2.1 dX12_jams_101 (lv_at hl 4 rfl) ?_
    refine lv_aload_n F.1 F.2.1 dX12_jams_103 rfl (lv_at hl 0 rfl) ?_
    refine kg_length F C dX12_jams_104 ?_
    refine lv_iload_n F.1 F.2.1 dX12_jams_107 rfl (lv_at hl 2 rfl) ?_
    obtain ⟨hn11, h⟩ := h
    refine kl_length F C hn11 dX12_jams_108 ?_
    refine lv_icmp_ge (tgt := 135) F.1 F.2.1 dX12_jams_109 (by decide) (fun c12 => ?_) (fun c12 => ?_)
    · have h := h.1 c12
      exact hk135 l1 l2 l3 μ H locs ls h C (lv_sub hl [0, 1, 2, 3] rfl)
    · have h := h.2 c12
      refine lv_aload_n F.1 F.2.1 dX12_jams_112 rfl (lv_at hl 0 rfl) ?_
      refine kg_isJammed F C dX12_jams_113 ?_
      refine lv_iload_n F.1 F.2.1 dX12_jams_116 rfl (lv_at hl 2 rfl) ?_
      refine lv_iload F.1 F.2.1 dX12_jams_117 (lv_at hl 4 rfl) ?_
      refine kc_X12_at0 F C h (Nat.le_of_ble_eq_true rfl) (Nat.le_of_ble_eq_true rfl) hl.1 (by simp [Value.category]) dX12_jams_119 (fun r14 μ13 H locs h C => ?_)
      obtain ⟨hn15, h⟩ := h
      refine kl_isJammed F C hn15 dX12_jams_122 ?_
      refine lv_if_eq (tgt := 129) F.1 F.2.1 dX12_jams_123 (by decide) (fun c16 => ?_) (fun c16 => ?_)
      · have h := h.1 c16
        exact tX12_jams_129 l G F hr hlocks Q (wX12_jams_101 k135 Q n) (fun l1 l2 l3 l4 μ9 H locs ls h C hl => ih l1 l2 l3 l4 μ9 H locs ls h C hl) l1 l2 l3 l4 μ13 H locs ls h C (lv_sub hl [0, 1, 2, 3, 4] rfl)
      · have h := h.2 c16
        refine lv_iload F.1 F.2.1 dX12_jams_126 (lv_at hl 4 rfl) ?_
        refine lv_istore_n (lv' := [(3, .int l4), (0, .ref (G.1 0)), (1, .int l1), (2, .int l2), (4, .int l4)]) F.1 F.2.1 dX12_jams_128 rfl hl (by decide) rfl (fun ls hl => ?_)
        exact tX12_jams_129 l G F hr hlocks Q (wX12_jams_101 k135 Q n) (fun l1 l2 l3 l4 μ9 H locs ls h C hl => ih l1 l2 l3 l4 μ9 H locs ls h C hl) l1 l2 l4 l4 μ13 H locs ls h C (lv_sub hl [1, 2, 3, 0, 4] rfl)
set_option maxRecDepth 100000 in
set_option maxHeartbeats 4000000 in
theorem tX12_jams_258 (l : Launch) (G : km_G) {p : Program} {e : Env} {s : State} {m : MethodId} {args : Array Value} {below : List Frame} {meth : Method} {c : Code} (F : CallFix p m c cX12_jams 5 s args kt_ RX12) (hr : meth.sig.returnType = none) (hlocks : meth.locks = false) (Q : km_S → Prop) (k302 : Int32 → km_S → Prop) (hk302 : ∀ (l1 : Int32) (μ : km_S) (H : Heap) (locs : List Loc) (ls : Array Slot), k302 l1 μ → km_X G s H locs μ → lv_has ls 5 [(0, .ref (G.1 0)), (1, .int l1)] → W p l e { frames := 1, cells := 0, slots := 0, locals := 21 } s m args below meth c H locs 0 0 (MQ below (km_Qv G Q) args s 0 0 (km_A G)) (F0 m 302 ls [])) : ∀ (n : Nat) (l1 : Int32) (l2 : Int32) (l3 : Int32) (μ : km_S) (H : Heap) (locs : List Loc) (ls : Array Slot), wX12_jams_258 k302 Q n l1 l2 l3 μ → km_X G s H locs μ → lv_has ls 5 [(0, .ref (G.1 0)), (1, .int l1), (2, .int l2), (3, .int l3)] → W p l e { frames := 1, cells := 0, slots := 0, locals := 21 } s m args below meth c H locs 0 0 (MQ below (km_Qv G Q) args s 0 0 (km_A G)) (F0 m 258 ls []) := by
  intro n
  induction n with
  | zero => intro l1 l2 l3 μ H locs ls h; exact h.elim
  | succ n ih =>
    intro l1 l2 l3 μ H locs ls h C hl
    refine lv_iload_n F.1 F.2.1 dX12_jams_258 rfl (lv_at hl 3 rfl) ?_
    refine lv_aload_n F.1 F.2.1 dX12_jams_259 rfl (lv_at hl 0 rfl) ?_
    refine kg_length F C dX12_jams_260 ?_
    refine lv_iload_n F.1 F.2.1 dX12_jams_263 rfl (lv_at hl 1 rfl) ?_
    obtain ⟨hn17, h⟩ := h
    refine kl_length F C hn17 dX12_jams_264 ?_
    refine lv_icmp_ge (tgt := 302) F.1 F.2.1 dX12_jams_265 (by decide) (fun c18 => ?_) (fun c18 => ?_)
    · have h := h.1 c18
      exact hk302 l1 μ H locs ls h C (lv_sub hl [0, 1] rfl)
    · have h := h.2 c18
      refine lv_iload_n F.1 F.2.1 dX12_jams_268 rfl (lv_at hl 2 rfl) ?_
      refine lv_if_eq (tgt := 302) F.1 F.2.1 dX12_jams_269 (by decide) (fun c19 => ?_) (fun c19 => ?_)
      · have h := h.1 c19
        exact hk302 l1 μ H locs ls h C (lv_sub hl [0, 1] rfl)
      · have h := h.2 c19
        refine lv_aload_n F.1 F.2.1 dX12_jams_272 rfl (lv_at hl 0 rfl) ?_
        refine kg_isJammed F C dX12_jams_273 ?_
        refine lv_iload_n F.1 F.2.1 dX12_jams_276 rfl (lv_at hl 1 rfl) ?_
        refine lv_iload_n F.1 F.2.1 dX12_jams_277 rfl (lv_at hl 3 rfl) ?_
        refine kc_X12_at0 F C h (Nat.le_of_ble_eq_true rfl) (Nat.le_of_ble_eq_true rfl) hl.1 (by simp [Value.category]) dX12_jams_278 (fun r21 μ20 H locs h C => ?_)
        obtain ⟨hn22, h⟩ := h
        refine kl_isJammed F C hn22 dX12_jams_281 ?_
        refine lv_if_eq (tgt := 296) F.1 F.2.1 dX12_jams_282 (by decide) (fun c23 => ?_) (fun c23 => ?_)
        · have h := h.1 c23
          exact tX12_jams_296 l G F hr hlocks Q (wX12_jams_258 k302 Q n) (fun l1 l2 l3 μ9 H locs ls h C hl => ih l1 l2 l3 μ9 H locs ls h C hl) l1 l2 l3 μ20 H locs ls h C (lv_sub hl [0, 1, 2, 3] rfl)
        · have h := h.2 c23
          refine lv_aload_n F.1 F.2.1 dX12_jams_285 rfl (lv_at hl 0 rfl) ?_
          refine kg_isKnown F C dX12_jams_286 ?_
          refine lv_iload_n F.1 F.2.1 dX12_jams_289 rfl (lv_at hl 1 rfl) ?_
          refine lv_iload_n F.1 F.2.1 dX12_jams_290 rfl (lv_at hl 3 rfl) ?_
          refine kc_X12_at0 F C h (Nat.le_of_ble_eq_true rfl) (Nat.le_of_ble_eq_true rfl) hl.1 (by simp [Value.category]) dX12_jams_291 (fun r25 μ24 H locs h C => ?_)
          refine lv_iconst (v := 1) F.1 F.2.1 dX12_jams_294 (by decide) ?_
          obtain ⟨hn26, h⟩ := h
          refine kq_isKnown F C hn26 dX12_jams_295 (fun H locs C => ?_)
          generalize eμ27 : km_sa μ24 34 r25.toNatClampNeg (vp_nar .boolean 1) = μ27 at C
          have h := h μ27 eμ27.symm
          exact tX12_jams_296 l G F hr hlocks Q (wX12_jams_258 k302 Q n) (fun l1 l2 l3 μ9 H locs ls h C hl => ih l1 l2 l3 μ9 H locs ls h C hl) l1 l2 l3 μ27 H locs ls h C (lv_sub hl [0, 1, 2, 3] rfl)
set_option maxRecDepth 100000 in
set_option maxHeartbeats 4000000 in
theorem tX12_jams_256 (l : Launch) (G : km_G) {p : Program} {e : Env} {s : State} {m : MethodId} {args : Array Value} {below : List Frame} {meth : Method} {c : Code} (F : CallFix p m c cX12_jams 5 s args kt_ RX12) (hr : meth.sig.returnType = none) (hlocks : meth.locks = false) (Q : km_S → Prop) (k213 : Int32 → km_S → Prop) (hk213 : ∀ (l1 : Int32) (μ : km_S) (H : Heap) (locs : List Loc) (ls : Array Slot), k213 l1 μ → km_X G s H locs μ → lv_has ls 5 [(0, .ref (G.1 0)), (1, .int l1)] → W p l e { frames := 1, cells := 0, slots := 0, locals := 21 } s m args below meth c H locs 0 0 (MQ below (km_Qv G Q) args s 0 0 (km_A G)) (F0 m 213 ls [])) : ∀ (l1 : Int32) (l2 : Int32) (μ : km_S) (H : Heap) (locs : List Loc) (ls : Array Slot), wX12_jams_256 k213 Q l1 l2 μ → km_X G s H locs μ → lv_has ls 5 [(0, .ref (G.1 0)), (1, .int l1), (2, .int l2)] → W p l e { frames := 1, cells := 0, slots := 0, locals := 21 } s m args below meth c H locs 0 0 (MQ below (km_Qv G Q) args s 0 0 (km_A G)) (F0 m 256 ls []) := by
  intro l1 l2 μ H locs ls h C hl
  refine lv_iconst (v := 0) F.1 F.2.1 dX12_jams_256 (by decide) ?_
  refine lv_istore_n (lv' := [(3, .int 0), (0, .ref (G.1 0)), (1, .int l1), (2, .int l2)]) F.1 F.2.1 dX12_jams_257 rfl hl (by decide) rfl (fun ls hl => ?_)
  obtain ⟨n28, h⟩ := h
  exact tX12_jams_258 l G F hr hlocks Q (wX12_jams_302 k213 Q) (tX12_jams_302 l G F hr hlocks Q k213 hk213) n28 l1 l2 0 μ H locs ls h C (lv_sub hl [1, 2, 3, 0] rfl)
set_option maxRecDepth 100000 in
set_option maxHeartbeats 4000000 in
theorem tX12_jams_12 (l : Launch) (G : km_G) {p : Program} {e : Env} {s : State} {m : MethodId} {args : Array Value} {below : List Frame} {meth : Method} {c : Code} (F : CallFix p m c cX12_jams 5 s args kt_ RX12) (hr : meth.sig.returnType = none) (hlocks : meth.locks = false) (Q : km_S → Prop) (k73 : Int32 → km_S → Prop) (hk73 : ∀ (l1 : Int32) (μ : km_S) (H : Heap) (locs : List Loc) (ls : Array Slot), k73 l1 μ → km_X G s H locs μ → lv_has ls 5 [(0, .ref (G.1 0)), (1, .int l1)] → W p l e { frames := 1, cells := 0, slots := 0, locals := 21 } s m args below meth c H locs 0 0 (MQ below (km_Qv G Q) args s 0 0 (km_A G)) (F0 m 73 ls [])) : ∀ (n : Nat) (l1 : Int32) (l2 : Int32) (μ : km_S) (H : Heap) (locs : List Loc) (ls : Array Slot), wX12_jams_12 k73 Q n l1 l2 μ → km_X G s H locs μ → lv_has ls 5 [(0, .ref (G.1 0)), (1, .int l1), (2, .int l2)] → W p l e { frames := 1, cells := 0, slots := 0, locals := 21 } s m args below meth c H locs 0 0 (MQ below (km_Qv G Q) args s 0 0 (km_A G)) (F0 m 12 ls []) := by
  intro n
  induction n with
  | zero => intro l1 l2 μ H locs ls h; exact h.elim
  | succ n ih =>
    intro l1 l2 μ H locs ls h C hl
    refine lv_iload_n F.1 F.2.1 dX12_jams_12 rfl (lv_at hl 2 rfl) ?_
    refine lv_aload_n F.1 F.2.1 dX12_jams_13 rfl (lv_at hl 0 rfl) ?_
    refine kg_length F C dX12_jams_14 ?_
    refine lv_iload_n F.1 F.2.1 dX12_jams_17 rfl (lv_at hl 1 rfl) ?_
    obtain ⟨hn29, h⟩ := h
    refine kl_length F C hn29 dX12_jams_18 ?_
    refine lv_icmp_ge (tgt := 73) F.1 F.2.1 dX12_jams_19 (by decide) (fun c30 => ?_) (fun c30 => ?_)
    · have h := h.1 c30
      exact hk73 l1 μ H locs ls h C (lv_sub hl [0, 1] rfl)
    · have h := h.2 c30
      refine lv_aload_n F.1 F.2.1 dX12_jams_22 rfl (lv_at hl 0 rfl) ?_
      refine kg_holds F C dX12_jams_23 ?_
      refine lv_iload_n F.1 F.2.1 dX12_jams_26 rfl (lv_at hl 1 rfl) ?_
      refine lv_iload_n F.1 F.2.1 dX12_jams_27 rfl (lv_at hl 2 rfl) ?_
      refine kc_X12_at0 F C h (Nat.le_of_ble_eq_true rfl) (Nat.le_of_ble_eq_true rfl) hl.1 (by simp [Value.category]) dX12_jams_28 (fun r32 μ31 H locs h C => ?_)
      obtain ⟨hn33, h⟩ := h
      refine kl_holds F C hn33 dX12_jams_31 ?_
      refine lv_aload_n F.1 F.2.1 dX12_jams_32 rfl (lv_at hl 0 rfl) ?_
      refine kg_carry F C dX12_jams_33 ?_
      refine lv_iload_n F.1 F.2.1 dX12_jams_36 rfl (lv_at hl 1 rfl) ?_
      obtain ⟨hn34, h⟩ := h
      refine kl_carry F C hn34 dX12_jams_37 ?_
      refine lv_icmp_ne (tgt := 67) F.1 F.2.1 dX12_jams_38 (by decide) (fun c35 => ?_) (fun c35 => ?_)
      · have h := h.1 c35
        exact tX12_jams_67 l G F hr hlocks Q (wX12_jams_12 k73 Q n) (fun l1 l2 μ9 H locs ls h C hl => ih l1 l2 μ9 H locs ls h C hl) l1 l2 μ31 H locs ls h C (lv_sub hl [0, 1, 2] rfl)
      · have h := h.2 c35
        refine lv_aload_n F.1 F.2.1 dX12_jams_41 rfl (lv_at hl 0 rfl) ?_
        refine kg_flow F C dX12_jams_42 ?_
        refine lv_iload_n F.1 F.2.1 dX12_jams_45 rfl (lv_at hl 1 rfl) ?_
        obtain ⟨hn36, h⟩ := h
        refine kl_flow F C hn36 dX12_jams_46 ?_
        refine lv_aload_n F.1 F.2.1 dX12_jams_47 rfl (lv_at hl 0 rfl) ?_
        refine kg_jam F C dX12_jams_48 ?_
        refine lv_iload_n F.1 F.2.1 dX12_jams_51 rfl (lv_at hl 1 rfl) ?_
        obtain ⟨hn37, h⟩ := h
        refine kl_jam F C hn37 dX12_jams_52 ?_
        refine lv_icmp_ge (tgt := 67) F.1 F.2.1 dX12_jams_53 (by decide) (fun c38 => ?_) (fun c38 => ?_)
        · have h := h.1 c38
          exact tX12_jams_67 l G F hr hlocks Q (wX12_jams_12 k73 Q n) (fun l1 l2 μ9 H locs ls h C hl => ih l1 l2 μ9 H locs ls h C hl) l1 l2 μ31 H locs ls h C (lv_sub hl [0, 1, 2] rfl)
        · have h := h.2 c38
          refine lv_aload_n F.1 F.2.1 dX12_jams_56 rfl (lv_at hl 0 rfl) ?_
          refine kg_isJammed F C dX12_jams_57 ?_
          refine lv_iload_n F.1 F.2.1 dX12_jams_60 rfl (lv_at hl 1 rfl) ?_
          refine lv_iload_n F.1 F.2.1 dX12_jams_61 rfl (lv_at hl 2 rfl) ?_
          refine kc_X12_at0 F C h (Nat.le_of_ble_eq_true rfl) (Nat.le_of_ble_eq_true rfl) hl.1 (by simp [Value.category]) dX12_jams_62 (fun r40 μ39 H locs h C => ?_)
          refine lv_iconst (v := 1) F.1 F.2.1 dX12_jams_65 (by decide) ?_
          obtain ⟨hn41, h⟩ := h
          refine kq_isJammed F C hn41 dX12_jams_66 (fun H locs C => ?_)
          generalize eμ42 : km_sa μ39 33 r40.toNatClampNeg (vp_nar .boolean 1) = μ42 at C
          have h := h μ42 eμ42.symm
          exact tX12_jams_67 l G F hr hlocks Q (wX12_jams_12 k73 Q n) (fun l1 l2 μ9 H locs ls h C hl => ih l1 l2 μ9 H locs ls h C hl) l1 l2 μ42 H locs ls h C (lv_sub hl [0, 1, 2] rfl)
set_option maxRecDepth 100000 in
set_option maxHeartbeats 4000000 in
theorem tX12_jams_2 (l : Launch) (G : km_G) {p : Program} {e : Env} {s : State} {m : MethodId} {args : Array Value} {below : List Frame} {meth : Method} {c : Code} (F : CallFix p m c cX12_jams 5 s args kt_ RX12) (hr : meth.sig.returnType = none) (hlocks : meth.locks = false) (Q : km_S → Prop) (k79 : km_S → Prop) (hk79 : ∀  (μ : km_S) (H : Heap) (locs : List Loc) (ls : Array Slot), k79  μ → km_X G s H locs μ → lv_has ls 5 [(0, .ref (G.1 0))] → W p l e { frames := 1, cells := 0, slots := 0, locals := 21 } s m args below meth c H locs 0 0 (MQ below (km_Qv G Q) args s 0 0 (km_A G)) (F0 m 79 ls [])) : ∀ (n : Nat) (l1 : Int32) (μ : km_S) (H : Heap) (locs : List Loc) (ls : Array Slot), wX12_jams_2 k79 Q n l1 μ → km_X G s H locs μ → lv_has ls 5 [(0, .ref (G.1 0)), (1, .int l1)] → W p l e { frames := 1, cells := 0, slots := 0, locals := 21 } s m args below meth c H locs 0 0 (MQ below (km_Qv G Q) args s 0 0 (km_A G)) (F0 m 2 ls []) := by
  intro n
  induction n with
  | zero => intro l1 μ H locs ls h; exact h.elim
  | succ n ih =>
    intro l1 μ H locs ls h C hl
    refine lv_iload_n F.1 F.2.1 dX12_jams_2 rfl (lv_at hl 1 rfl) ?_
    refine lv_aload_n F.1 F.2.1 dX12_jams_3 rfl (lv_at hl 0 rfl) ?_
    refine kg_reaches F C dX12_jams_4 ?_
    refine lv_icmp_ge (tgt := 79) F.1 F.2.1 dX12_jams_7 (by decide) (fun c43 => ?_) (fun c43 => ?_)
    · have h := h.1 c43
      exact hk79 μ H locs ls h C (lv_sub hl [0] rfl)
    · have h := h.2 c43
      refine lv_iconst (v := 0) F.1 F.2.1 dX12_jams_10 (by decide) ?_
      refine lv_istore_n (lv' := [(2, .int 0), (0, .ref (G.1 0)), (1, .int l1)]) F.1 F.2.1 dX12_jams_11 rfl hl (by decide) rfl (fun ls hl => ?_)
      obtain ⟨n44, h⟩ := h
      exact tX12_jams_12 l G F hr hlocks Q (wX12_jams_73 (wX12_jams_2 k79 Q n) Q) (tX12_jams_73 l G F hr hlocks Q (wX12_jams_2 k79 Q n) (fun l1 μ9 H locs ls h C hl => ih l1 μ9 H locs ls h C hl)) n44 l1 0 μ H locs ls h C (lv_sub hl [1, 2, 0] rfl)
set_option maxRecDepth 100000 in
set_option maxHeartbeats 4000000 in
theorem tX12_jams_135 (l : Launch) (G : km_G) {p : Program} {e : Env} {s : State} {m : MethodId} {args : Array Value} {below : List Frame} {meth : Method} {c : Code} (F : CallFix p m c cX12_jams 5 s args kt_ RX12) (hr : meth.sig.returnType = none) (hlocks : meth.locks = false) (Q : km_S → Prop) (k81 : Int32 → km_S → Prop) (hk81 : ∀ (l1 : Int32) (μ : km_S) (H : Heap) (locs : List Loc) (ls : Array Slot), k81 l1 μ → km_X G s H locs μ → lv_has ls 5 [(0, .ref (G.1 0)), (1, .int l1)] → W p l e { frames := 1, cells := 0, slots := 0, locals := 21 } s m args below meth c H locs 0 0 (MQ below (km_Qv G Q) args s 0 0 (km_A G)) (F0 m 81 ls [])) : ∀ (l1 : Int32) (l2 : Int32) (l3 : Int32) (μ : km_S) (H : Heap) (locs : List Loc) (ls : Array Slot), wX12_jams_135 k81 Q l1 l2 l3 μ → km_X G s H locs μ → lv_has ls 5 [(0, .ref (G.1 0)), (1, .int l1), (2, .int l2), (3, .int l3)] → W p l e { frames := 1, cells := 0, slots := 0, locals := 21 } s m args below meth c H locs 0 0 (MQ below (km_Qv G Q) args s 0 0 (km_A G)) (F0 m 135 ls []) := by
  intro l1 l2 l3 μ H locs ls h C hl
  refine lv_iload_n F.1 F.2.1 dX12_jams_135 rfl (lv_at hl 3 rfl) ?_
  refine lv_iconst (v := (-1)) F.1 F.2.1 dX12_jams_136 (by decide) ?_
  refine lv_icmp_eq (tgt := 205) F.1 F.2.1 dX12_jams_137 (by decide) (fun c45 => ?_) (fun c45 => ?_)
  · have h := h.1 c45
    exact tX12_jams_205 l G F hr hlocks Q k81 hk81 l1 μ H locs ls h C (lv_sub hl [0, 1] rfl)
  · have h := h.2 c45
    refine lv_aload_n F.1 F.2.1 dX12_jams_140 rfl (lv_at hl 0 rfl) ?_
    refine kg_crewCame F C dX12_jams_141 ?_
    refine lv_iload_n F.1 F.2.1 dX12_jams_144 rfl (lv_at hl 1 rfl) ?_
    obtain ⟨hn46, h⟩ := h
    refine kl_crewCame F C hn46 dX12_jams_145 ?_
    refine lv_aload_n F.1 F.2.1 dX12_jams_146 rfl (lv_at hl 0 rfl) ?_
    refine kg_now F C dX12_jams_147 ?_
    refine lv_iconst (v := 1) F.1 F.2.1 dX12_jams_150 (by decide) ?_
    refine lv_isub (x := km_i μ 2) (y := 1) F.1 F.2.1 dX12_jams_151 ?_
    refine lv_icmp_gt (tgt := 205) F.1 F.2.1 dX12_jams_152 (by decide) (fun c47 => ?_) (fun c47 => ?_)
    · have h := h.1 c47
      exact tX12_jams_205 l G F hr hlocks Q k81 hk81 l1 μ H locs ls h C (lv_sub hl [0, 1] rfl)
    · have h := h.2 c47
      refine lv_aload_n F.1 F.2.1 dX12_jams_155 rfl (lv_at hl 0 rfl) ?_
      refine kg_crewFreed F C dX12_jams_156 ?_
      refine lv_iload_n F.1 F.2.1 dX12_jams_159 rfl (lv_at hl 1 rfl) ?_
      obtain ⟨hn48, h⟩ := h
      refine kl_crewFreed F C hn48 dX12_jams_160 ?_
      refine lv_aload_n F.1 F.2.1 dX12_jams_161 rfl (lv_at hl 0 rfl) ?_
      refine kg_now F C dX12_jams_162 ?_
      refine lv_iconst (v := 1) F.1 F.2.1 dX12_jams_165 (by decide) ?_
      refine lv_isub (x := km_i μ 2) (y := 1) F.1 F.2.1 dX12_jams_166 ?_
      refine lv_icmp_ne (tgt := 173) F.1 F.2.1 dX12_jams_167 (by decide) (fun c49 => ?_) (fun c49 => ?_)
      · have h := h.1 c49
        refine lv_aload_n F.1 F.2.1 dX12_jams_173 rfl (lv_at hl 0 rfl) ?_
        refine kg_isJammed F C dX12_jams_174 ?_
        refine lv_iload_n F.1 F.2.1 dX12_jams_177 rfl (lv_at hl 2 rfl) ?_
        refine lv_iload_n F.1 F.2.1 dX12_jams_178 rfl (lv_at hl 3 rfl) ?_
        refine kc_X12_at0 F C h (Nat.le_of_ble_eq_true rfl) (Nat.le_of_ble_eq_true rfl) hl.1 (by simp [Value.category]) dX12_jams_179 (fun r51 μ50 H locs h C => ?_)
        refine lv_iconst (v := 0) F.1 F.2.1 dX12_jams_182 (by decide) ?_
        obtain ⟨hn52, h⟩ := h
        refine kq_isJammed F C hn52 dX12_jams_183 (fun H locs C => ?_)
        generalize eμ53 : km_sa μ50 33 r51.toNatClampNeg (vp_nar .boolean 0) = μ53 at C
        have h := h μ53 eμ53.symm
        refine lv_aload_n F.1 F.2.1 dX12_jams_184 rfl (lv_at hl 0 rfl) ?_
        refine kg_isKnown F C dX12_jams_185 ?_
        refine lv_iload_n F.1 F.2.1 dX12_jams_188 rfl (lv_at hl 2 rfl) ?_
        refine lv_iload_n F.1 F.2.1 dX12_jams_189 rfl (lv_at hl 3 rfl) ?_
        refine kc_X12_at0 F C h (Nat.le_of_ble_eq_true rfl) (Nat.le_of_ble_eq_true rfl) hl.1 (by simp [Value.category]) dX12_jams_190 (fun r55 μ54 H locs h C => ?_)
        refine lv_iconst (v := 0) F.1 F.2.1 dX12_jams_193 (by decide) ?_
        obtain ⟨hn56, h⟩ := h
        refine kq_isKnown F C hn56 dX12_jams_194 (fun H locs C => ?_)
        generalize eμ57 : km_sa μ54 34 r55.toNatClampNeg (vp_nar .boolean 0) = μ57 at C
        have h := h μ57 eμ57.symm
        refine lv_aload_n F.1 F.2.1 dX12_jams_195 rfl (lv_at hl 0 rfl) ?_
        refine kg_crewFreed F C dX12_jams_196 ?_
        refine lv_iload_n F.1 F.2.1 dX12_jams_199 rfl (lv_at hl 1 rfl) ?_
        refine lv_aload_n F.1 F.2.1 dX12_jams_200 rfl (lv_at hl 0 rfl) ?_
        refine kg_now F C dX12_jams_201 ?_
        obtain ⟨hn58, h⟩ := h
        refine kq_crewFreed F C hn58 dX12_jams_204 (fun H locs C => ?_)
        generalize eμ59 : km_sa μ57 46 l1.toNatClampNeg (km_i μ57 2) = μ59 at C
        have h := h μ59 eμ59.symm
        exact tX12_jams_205 l G F hr hlocks Q k81 hk81 l1 μ59 H locs ls h C (lv_sub hl [0, 1] rfl)
      · have h := h.2 c49
        refine lv_goto (tgt := 205) F.1 F.2.1 dX12_jams_170 (by decide) ?_
        exact tX12_jams_205 l G F hr hlocks Q k81 hk81 l1 μ H locs ls h C (lv_sub hl [0, 1] rfl)
set_option maxRecDepth 100000 in
set_option maxHeartbeats 4000000 in
theorem tX12_jams_213 (l : Launch) (G : km_G) {p : Program} {e : Env} {s : State} {m : MethodId} {args : Array Value} {below : List Frame} {meth : Method} {c : Code} (F : CallFix p m c cX12_jams 5 s args kt_ RX12) (hr : meth.sig.returnType = none) (hlocks : meth.locks = false) (Q : km_S → Prop) : ∀ (n : Nat) (l1 : Int32) (μ : km_S) (H : Heap) (locs : List Loc) (ls : Array Slot), wX12_jams_213 Q n l1 μ → km_X G s H locs μ → lv_has ls 5 [(0, .ref (G.1 0)), (1, .int l1)] → W p l e { frames := 1, cells := 0, slots := 0, locals := 21 } s m args below meth c H locs 0 0 (MQ below (km_Qv G Q) args s 0 0 (km_A G)) (F0 m 213 ls []) := by
  intro n
  induction n with
  | zero => intro l1 μ H locs ls h; exact h.elim
  | succ n ih =>
    intro l1 μ H locs ls h C hl
    refine lv_iload_n F.1 F.2.1 dX12_jams_213 rfl (lv_at hl 1 rfl) ?_
    refine lv_aload_n F.1 F.2.1 dX12_jams_214 rfl (lv_at hl 0 rfl) ?_
    refine kg_reaches F C dX12_jams_215 ?_
    refine lv_icmp_ge (tgt := 308) F.1 F.2.1 dX12_jams_218 (by decide) (fun c60 => ?_) (fun c60 => ?_)
    · have h := h.1 c60
      exact km_vret F C hr hlocks h dX12_jams_308
    · have h := h.2 c60
      refine lv_aload_n F.1 F.2.1 dX12_jams_221 rfl (lv_at hl 0 rfl) ?_
      refine kg_isWatched F C dX12_jams_222 ?_
      refine lv_iload_n F.1 F.2.1 dX12_jams_225 rfl (lv_at hl 1 rfl) ?_
      obtain ⟨hn61, h⟩ := h
      refine kl_isWatched F C hn61 dX12_jams_226 ?_
      refine lv_topi (fun v62 ev62 => ?_)
      have h := h v62 ev62
      refine lv_istore_n (lv' := [(2, .int v62), (0, .ref (G.1 0)), (1, .int l1)]) F.1 F.2.1 dX12_jams_227 rfl hl (by decide) rfl (fun ls hl => ?_)
      refine lv_iconst (v := 0) F.1 F.2.1 dX12_jams_228 (by decide) ?_
      refine lv_istore_n (lv' := [(3, .int 0), (2, .int v62), (0, .ref (G.1 0)), (1, .int l1)]) F.1 F.2.1 dX12_jams_229 rfl hl (by decide) rfl (fun ls hl => ?_)
      obtain ⟨n63, h⟩ := h
      exact tX12_jams_230 l G F hr hlocks Q (wX12_jams_256 (wX12_jams_213 Q n) Q) (tX12_jams_256 l G F hr hlocks Q (wX12_jams_213 Q n) (fun l1 μ9 H locs ls h C hl => ih l1 μ9 H locs ls h C hl)) n63 l1 v62 0 μ H locs ls h C (lv_sub hl [2, 3, 1, 0] rfl)
set_option maxRecDepth 100000 in
set_option maxHeartbeats 4000000 in
theorem tX12_jams_211 (l : Launch) (G : km_G) {p : Program} {e : Env} {s : State} {m : MethodId} {args : Array Value} {below : List Frame} {meth : Method} {c : Code} (F : CallFix p m c cX12_jams 5 s args kt_ RX12) (hr : meth.sig.returnType = none) (hlocks : meth.locks = false) (Q : km_S → Prop) : ∀ (μ : km_S) (H : Heap) (locs : List Loc) (ls : Array Slot), wX12_jams_211 Q μ → km_X G s H locs μ → lv_has ls 5 [(0, .ref (G.1 0))] → W p l e { frames := 1, cells := 0, slots := 0, locals := 21 } s m args below meth c H locs 0 0 (MQ below (km_Qv G Q) args s 0 0 (km_A G)) (F0 m 211 ls []) := by
  intro  μ H locs ls h C hl
  refine lv_iconst (v := 0) F.1 F.2.1 dX12_jams_211 (by decide) ?_
  refine lv_istore_n (lv' := [(1, .int 0), (0, .ref (G.1 0))]) F.1 F.2.1 dX12_jams_212 rfl hl (by decide) rfl (fun ls hl => ?_)
  obtain ⟨n64, h⟩ := h
  exact tX12_jams_213 l G F hr hlocks Q n64 0 μ H locs ls h C (lv_sub hl [1, 0] rfl)
set_option maxRecDepth 100000 in
set_option maxHeartbeats 4000000 in
theorem tX12_jams_81 (l : Launch) (G : km_G) {p : Program} {e : Env} {s : State} {m : MethodId} {args : Array Value} {below : List Frame} {meth : Method} {c : Code} (F : CallFix p m c cX12_jams 5 s args kt_ RX12) (hr : meth.sig.returnType = none) (hlocks : meth.locks = false) (Q : km_S → Prop) (k211 : km_S → Prop) (hk211 : ∀  (μ : km_S) (H : Heap) (locs : List Loc) (ls : Array Slot), k211  μ → km_X G s H locs μ → lv_has ls 5 [(0, .ref (G.1 0))] → W p l e { frames := 1, cells := 0, slots := 0, locals := 21 } s m args below meth c H locs 0 0 (MQ below (km_Qv G Q) args s 0 0 (km_A G)) (F0 m 211 ls [])) : ∀ (n : Nat) (l1 : Int32) (μ : km_S) (H : Heap) (locs : List Loc) (ls : Array Slot), wX12_jams_81 k211 Q n l1 μ → km_X G s H locs μ → lv_has ls 5 [(0, .ref (G.1 0)), (1, .int l1)] → W p l e { frames := 1, cells := 0, slots := 0, locals := 21 } s m args below meth c H locs 0 0 (MQ below (km_Qv G Q) args s 0 0 (km_A G)) (F0 m 81 ls []) := by
  intro n
  induction n with
  | zero => intro l1 μ H locs ls h; exact h.elim
  | succ n ih =>
    intro l1 μ H locs ls h C hl
    refine lv_iload_n F.1 F.2.1 dX12_jams_81 rfl (lv_at hl 1 rfl) ?_
    refine lv_aload_n F.1 F.2.1 dX12_jams_82 rfl (lv_at hl 0 rfl) ?_
    refine kg_crews F C dX12_jams_83 ?_
    refine lv_icmp_ge (tgt := 211) F.1 F.2.1 dX12_jams_86 (by decide) (fun c65 => ?_) (fun c65 => ?_)
    · have h := h.1 c65
      exact hk211 μ H locs ls h C (lv_sub hl [0] rfl)
    · have h := h.2 c65
      refine lv_aload_n F.1 F.2.1 dX12_jams_89 rfl (lv_at hl 0 rfl) ?_
      refine kg_crewReach F C dX12_jams_90 ?_
      refine lv_iload_n F.1 F.2.1 dX12_jams_93 rfl (lv_at hl 1 rfl) ?_
      obtain ⟨hn66, h⟩ := h
      refine kl_crewReach F C hn66 dX12_jams_94 ?_
      refine lv_topi (fun v67 ev67 => ?_)
      have h := h v67 ev67
      refine lv_istore_n (lv' := [(2, .int v67), (0, .ref (G.1 0)), (1, .int l1)]) F.1 F.2.1 dX12_jams_95 rfl hl (by decide) rfl (fun ls hl => ?_)
      refine lv_iconst (v := (-1)) F.1 F.2.1 dX12_jams_96 (by decide) ?_
      refine lv_istore_n (lv' := [(3, .int (-1)), (2, .int v67), (0, .ref (G.1 0)), (1, .int l1)]) F.1 F.2.1 dX12_jams_97 rfl hl (by decide) rfl (fun ls hl => ?_)
      refine lv_iconst (v := 0) F.1 F.2.1 dX12_jams_98 (by decide) ?_
      refine lv_istore (lv' := [(4, .int 0), (3, .int (-1)), (2, .int v67), (0, .ref (G.1 0)), (1, .int l1)]) F.1 F.2.1 dX12_jams_99 hl (by decide) rfl (fun ls hl => ?_)
      obtain ⟨n68, h⟩ := h
      exact tX12_jams_101 l G F hr hlocks Q (wX12_jams_135 (wX12_jams_81 k211 Q n) Q) (tX12_jams_135 l G F hr hlocks Q (wX12_jams_81 k211 Q n) (fun l1 μ9 H locs ls h C hl => ih l1 μ9 H locs ls h C hl)) n68 l1 v67 (-1) 0 μ H locs ls h C (lv_sub hl [3, 4, 2, 1, 0] rfl)
set_option maxRecDepth 100000 in
set_option maxHeartbeats 4000000 in
theorem tX12_jams_79 (l : Launch) (G : km_G) {p : Program} {e : Env} {s : State} {m : MethodId} {args : Array Value} {below : List Frame} {meth : Method} {c : Code} (F : CallFix p m c cX12_jams 5 s args kt_ RX12) (hr : meth.sig.returnType = none) (hlocks : meth.locks = false) (Q : km_S → Prop) : ∀ (μ : km_S) (H : Heap) (locs : List Loc) (ls : Array Slot), wX12_jams_79 Q μ → km_X G s H locs μ → lv_has ls 5 [(0, .ref (G.1 0))] → W p l e { frames := 1, cells := 0, slots := 0, locals := 21 } s m args below meth c H locs 0 0 (MQ below (km_Qv G Q) args s 0 0 (km_A G)) (F0 m 79 ls []) := by
  intro  μ H locs ls h C hl
  refine lv_iconst (v := 0) F.1 F.2.1 dX12_jams_79 (by decide) ?_
  refine lv_istore_n (lv' := [(1, .int 0), (0, .ref (G.1 0))]) F.1 F.2.1 dX12_jams_80 rfl hl (by decide) rfl (fun ls hl => ?_)
  obtain ⟨n69, h⟩ := h
  exact tX12_jams_81 l G F hr hlocks Q (wX12_jams_211 Q) (tX12_jams_211 l G F hr hlocks Q) n69 0 μ H locs ls h C (lv_sub hl [1, 0] rfl)
set_option maxRecDepth 100000 in
set_option maxHeartbeats 4000000 in
theorem hc_X12_jams (l : Launch) (G : km_G) (μ : km_S) (Q : km_S → Prop) (h : wX12_jams μ Q) : km_M l G yX12_jams cX12_jams 5 none (1) (21) [.ref (G.1 0)] μ (km_Qv G Q) := by
  refine km_enter (by decide) rfl (Nat.le_of_ble_eq_true rfl) ?_
  intro p e s m below meth c ls F hr hlocks C hl
  have hl : lv_has ls 5 [(0, .ref (G.1 0))] := hl
  obtain ⟨H, eH⟩ : ∃ z9, z9 = s.heap := ⟨_, rfl⟩
  obtain ⟨locs, eL⟩ : ∃ z9 : List Loc, z9 = [] := ⟨_, rfl⟩
  rw [← eH, ← eL] at C
  rw [← eH, ← eL]
  refine lv_iconst (v := 0) F.1 F.2.1 dX12_jams_0 (by decide) ?_
  refine lv_istore_n (lv' := [(1, .int 0), (0, .ref (G.1 0))]) F.1 F.2.1 dX12_jams_1 rfl hl (by decide) rfl (fun ls hl => ?_)
  obtain ⟨n70, h⟩ := h
  exact tX12_jams_2 l G F hr hlocks Q (wX12_jams_79 Q) (tX12_jams_79 l G F hr hlocks Q) n70 0 μ H locs ls h C (lv_sub hl [1, 0] rfl)
section
variable {p : Program} {l : Launch} {e : Env} {R : Room} {s : State} {m : MethodId} {args : Array Value} {below : List Frame} {meth : Method} {c : Code} {H : Heap} {locs : List Loc} {Q : State → Prop}
variable {cc : ByteArray} {pc nL : Nat} {ls : Array Slot} {rest : List Value} {G : km_G} {μ : km_S}
theorem kc_X12_jams (F : CallFix p m c cc nL s args kt_ RX12) (C : km_X G s H locs μ) {P : km_S → Prop} (h : wX12_jams μ P) (h1 : (1) + 1 ≤ R.frames) (h2 : 8 + (5 + 11) + (21) ≤ R.locals) (hsz : ls.size = nL) (hW : (rest.map fun v => v.category).sum ≤ 8) (hdg : decode cc pc = .ok (.invokevirtual 369, 3)) (kk : ∀ (μ' : km_S) (H1 : Heap) (locs1 : List Loc), P μ' → km_X G s H1 locs1 μ' → W p l e R s m args below meth c H1 locs1 0 0 Q (F0 m (pc + 3) ls rest)) : W p l e R s m args below meth c H locs 0 0 Q (F0 m pc ls (.ref (G.1 0) :: rest)) :=
  km_cVv (n := 0) (As := []) F C (hc_X12_jams l G μ P h) (kt_V tw_240 tw_241 tw_242 tw_151 tw_243) (by decide +kernel) ⟨h1, h2⟩ rfl hsz hW hdg kk
end
theorem dX12_older_0 : decode cX12_older 0 = .ok (.iconst 0, 1) := by decide +kernel
theorem dX12_older_1 : decode cX12_older 1 = .ok (.istore_n 1, 1) := by decide +kernel
theorem dX12_older_2 : decode cX12_older 2 = .ok (.iload_n 1, 1) := by decide +kernel
theorem dX12_older_3 : decode cX12_older 3 = .ok (.aload_n 0, 1) := by decide +kernel
theorem dX12_older_4 : decode cX12_older 4 = .ok (.getfield 303, 3) := by decide +kernel
theorem dX12_older_7 : decode cX12_older 7 = .ok (.if_icmp .ge 65, 3) := by decide +kernel
theorem dX12_older_10 : decode cX12_older 10 = .ok (.aload_n 0, 1) := by decide +kernel
theorem dX12_older_11 : decode cX12_older 11 = .ok (.getfield 107, 3) := by decide +kernel
theorem dX12_older_14 : decode cX12_older 14 = .ok (.iload_n 1, 1) := by decide +kernel
theorem dX12_older_15 : decode cX12_older 15 = .ok (.iaload, 1) := by decide +kernel
theorem dX12_older_16 : decode cX12_older 16 = .ok (.iconst 1, 1) := by decide +kernel
theorem dX12_older_17 : decode cX12_older 17 = .ok (.if_icmp .eq 6, 3) := by decide +kernel
theorem dX12_older_20 : decode cX12_older 20 = .ok (.goto 46, 3) := by decide +kernel
theorem dX12_older_23 : decode cX12_older 23 = .ok (.aload_n 0, 1) := by decide +kernel
theorem dX12_older_24 : decode cX12_older 24 = .ok (.getfield 116, 3) := by decide +kernel
theorem dX12_older_27 : decode cX12_older 27 = .ok (.iload_n 1, 1) := by decide +kernel
theorem dX12_older_28 : decode cX12_older 28 = .ok (.dup2, 1) := by decide +kernel
theorem dX12_older_29 : decode cX12_older 29 = .ok (.iaload, 1) := by decide +kernel
theorem dX12_older_30 : decode cX12_older 30 = .ok (.iconst 1, 1) := by decide +kernel
theorem dX12_older_31 : decode cX12_older 31 = .ok (.iadd, 1) := by decide +kernel
theorem dX12_older_32 : decode cX12_older 32 = .ok (.iastore, 1) := by decide +kernel
theorem dX12_older_33 : decode cX12_older 33 = .ok (.aload_n 0, 1) := by decide +kernel
theorem dX12_older_34 : decode cX12_older 34 = .ok (.getfield 116, 3) := by decide +kernel
theorem dX12_older_37 : decode cX12_older 37 = .ok (.iload_n 1, 1) := by decide +kernel
theorem dX12_older_38 : decode cX12_older 38 = .ok (.iaload, 1) := by decide +kernel
theorem dX12_older_39 : decode cX12_older 39 = .ok (.bipush 24, 2) := by decide +kernel
theorem dX12_older_41 : decode cX12_older 41 = .ok (.aload_n 0, 1) := by decide +kernel
theorem dX12_older_42 : decode cX12_older 42 = .ok (.getfield 103, 3) := by decide +kernel
theorem dX12_older_45 : decode cX12_older 45 = .ok (.iload_n 1, 1) := by decide +kernel
theorem dX12_older_46 : decode cX12_older 46 = .ok (.iaload, 1) := by decide +kernel
theorem dX12_older_47 : decode cX12_older 47 = .ok (.imul, 1) := by decide +kernel
theorem dX12_older_48 : decode cX12_older 48 = .ok (.if_icmp .ge 6, 3) := by decide +kernel
theorem dX12_older_51 : decode cX12_older 51 = .ok (.goto 15, 3) := by decide +kernel
theorem dX12_older_54 : decode cX12_older 54 = .ok (.aload_n 0, 1) := by decide +kernel
theorem dX12_older_55 : decode cX12_older 55 = .ok (.iload_n 1, 1) := by decide +kernel
theorem dX12_older_56 : decode cX12_older 56 = .ok (.invokevirtual 344, 3) := by decide +kernel
theorem dX12_older_59 : decode cX12_older 59 = .ok (.aload_n 0, 1) := by decide +kernel
theorem dX12_older_60 : decode cX12_older 60 = .ok (.getfield 107, 3) := by decide +kernel
theorem dX12_older_63 : decode cX12_older 63 = .ok (.iload_n 1, 1) := by decide +kernel
theorem dX12_older_64 : decode cX12_older 64 = .ok (.iconst 5, 1) := by decide +kernel
theorem dX12_older_65 : decode cX12_older 65 = .ok (.iastore, 1) := by decide +kernel
theorem dX12_older_66 : decode cX12_older 66 = .ok (.iinc 1 1, 3) := by decide +kernel
theorem dX12_older_69 : decode cX12_older 69 = .ok (.goto (-67), 3) := by decide +kernel
theorem dX12_older_72 : decode cX12_older 72 = .ok (.return_, 1) := by decide +kernel
def wX12_older_66 (k2 : Int32 → km_S → Prop) (Q : km_S → Prop) (l1 : Int32) (μ : km_S) : Prop := ∀ v1 : Int32, v1 = l1 + 1 → k2 v1 μ
def wX12_older_2 (Q : km_S → Prop) : Nat → Int32 → km_S → Prop
  | 0, _, _ => False
  | n + 1, l1, μ => (((km_i μ 4) ≤ l1 → Q μ) ∧
    (¬ ((km_i μ 4) ≤ l1) → vp_in l1 400 ∧ (((km_a μ 38 l1.toNatClampNeg) = 1 → vp_in l1 400 ∧ vp_in l1 400 ∧ ∀ μ7, μ7 = km_sa μ 41 l1.toNatClampNeg ((km_a μ 41 l1.toNatClampNeg) + 1) → vp_in l1 400 ∧ vp_in l1 400 ∧ (((24 * (km_a μ7 36 l1.toNatClampNeg)) ≤ (km_a μ7 41 l1.toNatClampNeg) → wX12_lift l1 μ7 fun μ11 => vp_in l1 400 ∧ ∀ μ13, μ13 = km_sa μ11 38 l1.toNatClampNeg 5 → wX12_older_66 (wX12_older_2 Q n) Q l1 μ13) ∧
        (¬ ((24 * (km_a μ7 36 l1.toNatClampNeg)) ≤ (km_a μ7 41 l1.toNatClampNeg)) → wX12_older_66 (wX12_older_2 Q n) Q l1 μ7))) ∧
      (¬ ((km_a μ 38 l1.toNatClampNeg) = 1) → wX12_older_66 (wX12_older_2 Q n) Q l1 μ))))
def wX12_older (μ : km_S) (Q : km_S → Prop) : Prop := ∃ j, wX12_older_2 Q j 0 μ
set_option maxRecDepth 100000 in
set_option maxHeartbeats 4000000 in
theorem tX12_older_66 (l : Launch) (G : km_G) {p : Program} {e : Env} {s : State} {m : MethodId} {args : Array Value} {below : List Frame} {meth : Method} {c : Code} (F : CallFix p m c cX12_older 2 s args kt_ RX12) (hr : meth.sig.returnType = none) (hlocks : meth.locks = false) (Q : km_S → Prop) (k2 : Int32 → km_S → Prop) (hk2 : ∀ (l1 : Int32) (μ : km_S) (H : Heap) (locs : List Loc) (ls : Array Slot), k2 l1 μ → km_X G s H locs μ → lv_has ls 2 [(0, .ref (G.1 0)), (1, .int l1)] → W p l e { frames := 2, cells := 0, slots := 0, locals := 46 } s m args below meth c H locs 0 0 (MQ below (km_Qv G Q) args s 0 0 (km_A G)) (F0 m 2 ls [])) : ∀ (l1 : Int32) (μ : km_S) (H : Heap) (locs : List Loc) (ls : Array Slot), wX12_older_66 k2 Q l1 μ → km_X G s H locs μ → lv_has ls 2 [(0, .ref (G.1 0)), (1, .int l1)] → W p l e { frames := 2, cells := 0, slots := 0, locals := 46 } s m args below meth c H locs 0 0 (MQ below (km_Qv G Q) args s 0 0 (km_A G)) (F0 m 66 ls []) := by
  intro l1 μ H locs ls h C hl
  obtain ⟨v1, ev1⟩ : ∃ z9 : Int32, z9 = l1 + 1 := ⟨_, rfl⟩
  have h := h v1 ev1
  refine lv_iinc (v := v1) (lv' := [(1, .int v1), (0, .ref (G.1 0))]) F.1 F.2.1 dX12_older_66 hl (k := 1) rfl (by rw [ev1]; rfl) (by decide) rfl (fun ls hl => ?_)
  refine lv_goto (tgt := 2) F.1 F.2.1 dX12_older_69 (by decide) ?_
  exact hk2 v1 μ H locs ls h C (lv_sub hl [1, 0] rfl)
set_option maxRecDepth 100000 in
set_option maxHeartbeats 4000000 in
theorem tX12_older_2 (l : Launch) (G : km_G) {p : Program} {e : Env} {s : State} {m : MethodId} {args : Array Value} {below : List Frame} {meth : Method} {c : Code} (F : CallFix p m c cX12_older 2 s args kt_ RX12) (hr : meth.sig.returnType = none) (hlocks : meth.locks = false) (Q : km_S → Prop) : ∀ (n : Nat) (l1 : Int32) (μ : km_S) (H : Heap) (locs : List Loc) (ls : Array Slot), wX12_older_2 Q n l1 μ → km_X G s H locs μ → lv_has ls 2 [(0, .ref (G.1 0)), (1, .int l1)] → W p l e { frames := 2, cells := 0, slots := 0, locals := 46 } s m args below meth c H locs 0 0 (MQ below (km_Qv G Q) args s 0 0 (km_A G)) (F0 m 2 ls []) := by
  intro n
  induction n with
  | zero => intro l1 μ H locs ls h; exact h.elim
  | succ n ih =>
    intro l1 μ H locs ls h C hl
    refine lv_iload_n F.1 F.2.1 dX12_older_2 rfl (lv_at hl 1 rfl) ?_
    refine lv_aload_n F.1 F.2.1 dX12_older_3 rfl (lv_at hl 0 rfl) ?_
    refine kg_logs F C dX12_older_4 ?_
    refine lv_icmp_ge (tgt := 72) F.1 F.2.1 dX12_older_7 (by decide) (fun c2 => ?_) (fun c2 => ?_)
    · have h := h.1 c2
      exact km_vret F C hr hlocks h dX12_older_72
    · have h := h.2 c2
      refine lv_aload_n F.1 F.2.1 dX12_older_10 rfl (lv_at hl 0 rfl) ?_
      refine kg_place F C dX12_older_11 ?_
      refine lv_iload_n F.1 F.2.1 dX12_older_14 rfl (lv_at hl 1 rfl) ?_
      obtain ⟨hn3, h⟩ := h
      refine kl_place F C hn3 dX12_older_15 ?_
      refine lv_iconst (v := 1) F.1 F.2.1 dX12_older_16 (by decide) ?_
      refine lv_icmp_eq (tgt := 23) F.1 F.2.1 dX12_older_17 (by decide) (fun c4 => ?_) (fun c4 => ?_)
      · have h := h.1 c4
        refine lv_aload_n F.1 F.2.1 dX12_older_23 rfl (lv_at hl 0 rfl) ?_
        refine kg_age F C dX12_older_24 ?_
        refine lv_iload_n F.1 F.2.1 dX12_older_27 rfl (lv_at hl 1 rfl) ?_
        refine lv_dup2_11 F.1 F.2.1 dX12_older_28 rfl rfl ?_
        obtain ⟨hn5, h⟩ := h
        refine kl_age F C hn5 dX12_older_29 ?_
        refine lv_iconst (v := 1) F.1 F.2.1 dX12_older_30 (by decide) ?_
        refine lv_iadd (x := km_a μ 41 l1.toNatClampNeg) (y := 1) F.1 F.2.1 dX12_older_31 ?_
        obtain ⟨hn6, h⟩ := h
        refine kq_age F C hn6 dX12_older_32 (fun H locs C => ?_)
        generalize eμ7 : km_sa μ 41 l1.toNatClampNeg ((km_a μ 41 l1.toNatClampNeg) + 1) = μ7 at C
        have h := h μ7 eμ7.symm
        refine lv_aload_n F.1 F.2.1 dX12_older_33 rfl (lv_at hl 0 rfl) ?_
        refine kg_age F C dX12_older_34 ?_
        refine lv_iload_n F.1 F.2.1 dX12_older_37 rfl (lv_at hl 1 rfl) ?_
        obtain ⟨hn8, h⟩ := h
        refine kl_age F C hn8 dX12_older_38 ?_
        refine lv_bipush (v := 24) F.1 F.2.1 dX12_older_39 (by decide) ?_
        refine lv_aload_n F.1 F.2.1 dX12_older_41 rfl (lv_at hl 0 rfl) ?_
        refine kg_size F C dX12_older_42 ?_
        refine lv_iload_n F.1 F.2.1 dX12_older_45 rfl (lv_at hl 1 rfl) ?_
        obtain ⟨hn9, h⟩ := h
        refine kl_size F C hn9 dX12_older_46 ?_
        refine lv_imul (x := 24) (y := km_a μ7 36 l1.toNatClampNeg) F.1 F.2.1 dX12_older_47 ?_
        refine lv_icmp_ge (tgt := 54) F.1 F.2.1 dX12_older_48 (by decide) (fun c10 => ?_) (fun c10 => ?_)
        · have h := h.1 c10
          refine lv_aload_n F.1 F.2.1 dX12_older_54 rfl (lv_at hl 0 rfl) ?_
          refine lv_iload_n F.1 F.2.1 dX12_older_55 rfl (lv_at hl 1 rfl) ?_
          refine kc_X12_lift F C h (Nat.le_of_ble_eq_true rfl) (Nat.le_of_ble_eq_true rfl) hl.1 (by simp [Value.category]) dX12_older_56 (fun μ11 H locs h C => ?_)
          refine lv_aload_n F.1 F.2.1 dX12_older_59 rfl (lv_at hl 0 rfl) ?_
          refine kg_place F C dX12_older_60 ?_
          refine lv_iload_n F.1 F.2.1 dX12_older_63 rfl (lv_at hl 1 rfl) ?_
          refine lv_iconst (v := 5) F.1 F.2.1 dX12_older_64 (by decide) ?_
          obtain ⟨hn12, h⟩ := h
          refine kq_place F C hn12 dX12_older_65 (fun H locs C => ?_)
          generalize eμ13 : km_sa μ11 38 l1.toNatClampNeg 5 = μ13 at C
          have h := h μ13 eμ13.symm
          exact tX12_older_66 l G F hr hlocks Q (wX12_older_2 Q n) (fun l1 μ9 H locs ls h C hl => ih l1 μ9 H locs ls h C hl) l1 μ13 H locs ls h C (lv_sub hl [0, 1] rfl)
        · have h := h.2 c10
          refine lv_goto (tgt := 66) F.1 F.2.1 dX12_older_51 (by decide) ?_
          exact tX12_older_66 l G F hr hlocks Q (wX12_older_2 Q n) (fun l1 μ9 H locs ls h C hl => ih l1 μ9 H locs ls h C hl) l1 μ7 H locs ls h C (lv_sub hl [0, 1] rfl)
      · have h := h.2 c4
        refine lv_goto (tgt := 66) F.1 F.2.1 dX12_older_20 (by decide) ?_
        exact tX12_older_66 l G F hr hlocks Q (wX12_older_2 Q n) (fun l1 μ9 H locs ls h C hl => ih l1 μ9 H locs ls h C hl) l1 μ H locs ls h C (lv_sub hl [0, 1] rfl)
set_option maxRecDepth 100000 in
set_option maxHeartbeats 4000000 in
theorem hc_X12_older (l : Launch) (G : km_G) (μ : km_S) (Q : km_S → Prop) (h : wX12_older μ Q) : km_M l G yX12_older cX12_older 2 none (2) (46) [.ref (G.1 0)] μ (km_Qv G Q) := by
  refine km_enter (by decide) rfl (Nat.le_of_ble_eq_true rfl) ?_
  intro p e s m below meth c ls F hr hlocks C hl
  have hl : lv_has ls 2 [(0, .ref (G.1 0))] := hl
  obtain ⟨H, eH⟩ : ∃ z9, z9 = s.heap := ⟨_, rfl⟩
  obtain ⟨locs, eL⟩ : ∃ z9 : List Loc, z9 = [] := ⟨_, rfl⟩
  rw [← eH, ← eL] at C
  rw [← eH, ← eL]
  refine lv_iconst (v := 0) F.1 F.2.1 dX12_older_0 (by decide) ?_
  refine lv_istore_n (lv' := [(1, .int 0), (0, .ref (G.1 0))]) F.1 F.2.1 dX12_older_1 rfl hl (by decide) rfl (fun ls hl => ?_)
  obtain ⟨n14, h⟩ := h
  exact tX12_older_2 l G F hr hlocks Q n14 0 μ H locs ls h C (lv_sub hl [1, 0] rfl)
section
variable {p : Program} {l : Launch} {e : Env} {R : Room} {s : State} {m : MethodId} {args : Array Value} {below : List Frame} {meth : Method} {c : Code} {H : Heap} {locs : List Loc} {Q : State → Prop}
variable {cc : ByteArray} {pc nL : Nat} {ls : Array Slot} {rest : List Value} {G : km_G} {μ : km_S}
theorem kc_X12_older (F : CallFix p m c cc nL s args kt_ RX12) (C : km_X G s H locs μ) {P : km_S → Prop} (h : wX12_older μ P) (h1 : (2) + 1 ≤ R.frames) (h2 : 8 + (2 + 11) + (46) ≤ R.locals) (hsz : ls.size = nL) (hW : (rest.map fun v => v.category).sum ≤ 8) (hdg : decode cc pc = .ok (.invokevirtual 372, 3)) (kk : ∀ (μ' : km_S) (H1 : Heap) (locs1 : List Loc), P μ' → km_X G s H1 locs1 μ' → W p l e R s m args below meth c H1 locs1 0 0 Q (F0 m (pc + 3) ls rest)) : W p l e R s m args below meth c H locs 0 0 Q (F0 m pc ls (.ref (G.1 0) :: rest)) :=
  km_cVv (n := 0) (As := []) F C (hc_X12_older l G μ P h) (kt_V tw_244 tw_245 tw_246 tw_151 tw_247) (by decide +kernel) ⟨h1, h2⟩ rfl hsz hW hdg kk
end
theorem dX12_saw_0 : decode cX12_saw 0 = .ok (.aload_n 0, 1) := by decide +kernel
theorem dX12_saw_1 : decode cX12_saw 1 = .ok (.getfield 107, 3) := by decide +kernel
theorem dX12_saw_4 : decode cX12_saw 4 = .ok (.iload_n 1, 1) := by decide +kernel
theorem dX12_saw_5 : decode cX12_saw 5 = .ok (.iconst 3, 1) := by decide +kernel
theorem dX12_saw_6 : decode cX12_saw 6 = .ok (.iastore, 1) := by decide +kernel
theorem dX12_saw_7 : decode cX12_saw 7 = .ok (.aload_n 0, 1) := by decide +kernel
theorem dX12_saw_8 : decode cX12_saw 8 = .ok (.getfield 118, 3) := by decide +kernel
theorem dX12_saw_11 : decode cX12_saw 11 = .ok (.iload_n 1, 1) := by decide +kernel
theorem dX12_saw_12 : decode cX12_saw 12 = .ok (.aload_n 0, 1) := by decide +kernel
theorem dX12_saw_13 : decode cX12_saw 13 = .ok (.getfield 360, 3) := by decide +kernel
theorem dX12_saw_16 : decode cX12_saw 16 = .ok (.iastore, 1) := by decide +kernel
theorem dX12_saw_17 : decode cX12_saw 17 = .ok (.iconst 0, 1) := by decide +kernel
theorem dX12_saw_18 : decode cX12_saw 18 = .ok (.istore_n 2, 1) := by decide +kernel
theorem dX12_saw_19 : decode cX12_saw 19 = .ok (.iload_n 2, 1) := by decide +kernel
theorem dX12_saw_20 : decode cX12_saw 20 = .ok (.aload_n 0, 1) := by decide +kernel
theorem dX12_saw_21 : decode cX12_saw 21 = .ok (.getfield 103, 3) := by decide +kernel
theorem dX12_saw_24 : decode cX12_saw 24 = .ok (.iload_n 1, 1) := by decide +kernel
theorem dX12_saw_25 : decode cX12_saw 25 = .ok (.iaload, 1) := by decide +kernel
theorem dX12_saw_26 : decode cX12_saw 26 = .ok (.if_icmp .ge 29, 3) := by decide +kernel
theorem dX12_saw_29 : decode cX12_saw 29 = .ok (.aload_n 0, 1) := by decide +kernel
theorem dX12_saw_30 : decode cX12_saw 30 = .ok (.getfield 121, 3) := by decide +kernel
theorem dX12_saw_33 : decode cX12_saw 33 = .ok (.aload_n 0, 1) := by decide +kernel
theorem dX12_saw_34 : decode cX12_saw 34 = .ok (.getfield 360, 3) := by decide +kernel
theorem dX12_saw_37 : decode cX12_saw 37 = .ok (.iload_n 1, 1) := by decide +kernel
theorem dX12_saw_38 : decode cX12_saw 38 = .ok (.iastore, 1) := by decide +kernel
theorem dX12_saw_39 : decode cX12_saw 39 = .ok (.aload_n 0, 1) := by decide +kernel
theorem dX12_saw_40 : decode cX12_saw 40 = .ok (.dup, 1) := by decide +kernel
theorem dX12_saw_41 : decode cX12_saw 41 = .ok (.getfield 360, 3) := by decide +kernel
theorem dX12_saw_44 : decode cX12_saw 44 = .ok (.iconst 1, 1) := by decide +kernel
theorem dX12_saw_45 : decode cX12_saw 45 = .ok (.iadd, 1) := by decide +kernel
theorem dX12_saw_46 : decode cX12_saw 46 = .ok (.putfield 360, 3) := by decide +kernel
theorem dX12_saw_49 : decode cX12_saw 49 = .ok (.iinc 2 1, 3) := by decide +kernel
theorem dX12_saw_52 : decode cX12_saw 52 = .ok (.goto (-33), 3) := by decide +kernel
theorem dX12_saw_55 : decode cX12_saw 55 = .ok (.return_, 1) := by decide +kernel
def wX12_saw_19 (Q : km_S → Prop) : Nat → Int32 → Int32 → km_S → Prop
  | 0, _, _, _ => False
  | n + 1, l1, l2, μ => vp_in l1 400 ∧ (((km_a μ 36 l1.toNatClampNeg) ≤ l2 → Q μ) ∧
    (¬ ((km_a μ 36 l1.toNatClampNeg) ≤ l2) → vp_in (km_i μ 6) 3600 ∧ ∀ μ4, μ4 = km_sa μ 43 (km_i μ 6).toNatClampNeg l1 → ∀ μ5, μ5 = km_si μ4 6 ((km_i μ4 6) + 1) → ∀ v6 : Int32, v6 = l2 + 1 → wX12_saw_19 Q n l1 v6 μ5))
def wX12_saw (l1 : Int32) (μ : km_S) (Q : km_S → Prop) : Prop := vp_in l1 400 ∧ ∀ μ8, μ8 = km_sa μ 38 l1.toNatClampNeg 3 → vp_in l1 400 ∧ ∀ μ10, μ10 = km_sa μ8 42 l1.toNatClampNeg (km_i μ8 6) → ∃ j, wX12_saw_19 Q j l1 0 μ10
set_option maxRecDepth 100000 in
set_option maxHeartbeats 4000000 in
theorem tX12_saw_19 (l : Launch) (G : km_G) {p : Program} {e : Env} {s : State} {m : MethodId} {args : Array Value} {below : List Frame} {meth : Method} {c : Code} (F : CallFix p m c cX12_saw 3 s args kt_ RX12) (hr : meth.sig.returnType = none) (hlocks : meth.locks = false) (Q : km_S → Prop) : ∀ (n : Nat) (l1 : Int32) (l2 : Int32) (μ : km_S) (H : Heap) (locs : List Loc) (ls : Array Slot), wX12_saw_19 Q n l1 l2 μ → km_X G s H locs μ → lv_has ls 3 [(0, .ref (G.1 0)), (1, .int l1), (2, .int l2)] → W p l e { frames := 0, cells := 0, slots := 0, locals := 0 } s m args below meth c H locs 0 0 (MQ below (km_Qv G Q) args s 0 0 (km_A G)) (F0 m 19 ls []) := by
  intro n
  induction n with
  | zero => intro l1 l2 μ H locs ls h; exact h.elim
  | succ n ih =>
    intro l1 l2 μ H locs ls h C hl
    refine lv_iload_n F.1 F.2.1 dX12_saw_19 rfl (lv_at hl 2 rfl) ?_
    refine lv_aload_n F.1 F.2.1 dX12_saw_20 rfl (lv_at hl 0 rfl) ?_
    refine kg_size F C dX12_saw_21 ?_
    refine lv_iload_n F.1 F.2.1 dX12_saw_24 rfl (lv_at hl 1 rfl) ?_
    obtain ⟨hn1, h⟩ := h
    refine kl_size F C hn1 dX12_saw_25 ?_
    refine lv_icmp_ge (tgt := 55) F.1 F.2.1 dX12_saw_26 (by decide) (fun c2 => ?_) (fun c2 => ?_)
    · have h := h.1 c2
      exact km_vret F C hr hlocks h dX12_saw_55
    · have h := h.2 c2
      refine lv_aload_n F.1 F.2.1 dX12_saw_29 rfl (lv_at hl 0 rfl) ?_
      refine kg_boardLog F C dX12_saw_30 ?_
      refine lv_aload_n F.1 F.2.1 dX12_saw_33 rfl (lv_at hl 0 rfl) ?_
      refine kg_boards F C dX12_saw_34 ?_
      refine lv_iload_n F.1 F.2.1 dX12_saw_37 rfl (lv_at hl 1 rfl) ?_
      obtain ⟨hn3, h⟩ := h
      refine kq_boardLog F C hn3 dX12_saw_38 (fun H locs C => ?_)
      generalize eμ4 : km_sa μ 43 (km_i μ 6).toNatClampNeg l1 = μ4 at C
      have h := h μ4 eμ4.symm
      refine lv_aload_n F.1 F.2.1 dX12_saw_39 rfl (lv_at hl 0 rfl) ?_
      refine lv_dup F.1 F.2.1 dX12_saw_40 rfl ?_
      refine kg_boards F C dX12_saw_41 ?_
      refine lv_iconst (v := 1) F.1 F.2.1 dX12_saw_44 (by decide) ?_
      refine lv_iadd (x := km_i μ4 6) (y := 1) F.1 F.2.1 dX12_saw_45 ?_
      refine kp_boards F C dX12_saw_46 (fun H locs C => ?_)
      generalize eμ5 : km_si μ4 6 ((km_i μ4 6) + 1) = μ5 at C
      have h := h μ5 eμ5.symm
      obtain ⟨v6, ev6⟩ : ∃ z9 : Int32, z9 = l2 + 1 := ⟨_, rfl⟩
      have h := h v6 ev6
      refine lv_iinc (v := v6) (lv' := [(2, .int v6), (0, .ref (G.1 0)), (1, .int l1)]) F.1 F.2.1 dX12_saw_49 hl (k := 2) rfl (by rw [ev6]; rfl) (by decide) rfl (fun ls hl => ?_)
      refine lv_goto (tgt := 19) F.1 F.2.1 dX12_saw_52 (by decide) ?_
      exact ih l1 v6 μ5 H locs ls h C (lv_sub hl [1, 2, 0] rfl)
set_option maxRecDepth 100000 in
set_option maxHeartbeats 4000000 in
theorem hc_X12_saw (l : Launch) (G : km_G) (l1 : Int32) (μ : km_S) (Q : km_S → Prop) (h : wX12_saw l1 μ Q) : km_M l G yX12_saw cX12_saw 3 none (0) (0) [.ref (G.1 0), .int l1] μ (km_Qv G Q) := by
  refine km_enter (by decide) rfl (Nat.le_of_ble_eq_true rfl) ?_
  intro p e s m below meth c ls F hr hlocks C hl
  have hl : lv_has ls 3 [(0, .ref (G.1 0)), (1, .int l1)] := hl
  obtain ⟨H, eH⟩ : ∃ z9, z9 = s.heap := ⟨_, rfl⟩
  obtain ⟨locs, eL⟩ : ∃ z9 : List Loc, z9 = [] := ⟨_, rfl⟩
  rw [← eH, ← eL] at C
  rw [← eH, ← eL]
  refine lv_aload_n F.1 F.2.1 dX12_saw_0 rfl (lv_at hl 0 rfl) ?_
  refine kg_place F C dX12_saw_1 ?_
  refine lv_iload_n F.1 F.2.1 dX12_saw_4 rfl (lv_at hl 1 rfl) ?_
  refine lv_iconst (v := 3) F.1 F.2.1 dX12_saw_5 (by decide) ?_
  obtain ⟨hn7, h⟩ := h
  refine kq_place F C hn7 dX12_saw_6 (fun H locs C => ?_)
  generalize eμ8 : km_sa μ 38 l1.toNatClampNeg 3 = μ8 at C
  have h := h μ8 eμ8.symm
  refine lv_aload_n F.1 F.2.1 dX12_saw_7 rfl (lv_at hl 0 rfl) ?_
  refine kg_firstBoard F C dX12_saw_8 ?_
  refine lv_iload_n F.1 F.2.1 dX12_saw_11 rfl (lv_at hl 1 rfl) ?_
  refine lv_aload_n F.1 F.2.1 dX12_saw_12 rfl (lv_at hl 0 rfl) ?_
  refine kg_boards F C dX12_saw_13 ?_
  obtain ⟨hn9, h⟩ := h
  refine kq_firstBoard F C hn9 dX12_saw_16 (fun H locs C => ?_)
  generalize eμ10 : km_sa μ8 42 l1.toNatClampNeg (km_i μ8 6) = μ10 at C
  have h := h μ10 eμ10.symm
  refine lv_iconst (v := 0) F.1 F.2.1 dX12_saw_17 (by decide) ?_
  refine lv_istore_n (lv' := [(2, .int 0), (0, .ref (G.1 0)), (1, .int l1)]) F.1 F.2.1 dX12_saw_18 rfl hl (by decide) rfl (fun ls hl => ?_)
  obtain ⟨n11, h⟩ := h
  exact tX12_saw_19 l G F hr hlocks Q n11 l1 0 μ10 H locs ls h C (lv_sub hl [1, 2, 0] rfl)
section
variable {p : Program} {l : Launch} {e : Env} {R : Room} {s : State} {m : MethodId} {args : Array Value} {below : List Frame} {meth : Method} {c : Code} {H : Heap} {locs : List Loc} {Q : State → Prop}
variable {cc : ByteArray} {pc nL : Nat} {ls : Array Slot} {rest : List Value} {G : km_G} {μ : km_S}
theorem kc_X12_saw (F : CallFix p m c cc nL s args kt_ RX12) (C : km_X G s H locs μ) {P : km_S → Prop} {l1 : Int32} (h : wX12_saw l1 μ P) (h1 : (0) + 1 ≤ R.frames) (h2 : 8 + (3 + 11) + (0) ≤ R.locals) (hsz : ls.size = nL) (hW : (rest.map fun v => v.category).sum ≤ 8) (hdg : decode cc pc = .ok (.invokevirtual 357, 3)) (kk : ∀ (μ' : km_S) (H1 : Heap) (locs1 : List Loc), P μ' → km_X G s H1 locs1 μ' → W p l e R s m args below meth c H1 locs1 0 0 Q (F0 m (pc + 3) ls rest)) : W p l e R s m args below meth c H locs 0 0 Q (F0 m pc ls (.int l1 :: .ref (G.1 0) :: rest)) :=
  km_cVv (n := 1) (As := [.int l1]) F C (hc_X12_saw l G l1 μ P h) (kt_V tw_248 tw_249 tw_250 tw_151 tw_251) (by decide +kernel) ⟨h1, h2⟩ rfl hsz hW hdg kk
end
theorem dX12_mills_0 : decode cX12_mills 0 = .ok (.iconst 0, 1) := by decide +kernel
theorem dX12_mills_1 : decode cX12_mills 1 = .ok (.istore_n 1, 1) := by decide +kernel
theorem dX12_mills_2 : decode cX12_mills 2 = .ok (.iload_n 1, 1) := by decide +kernel
theorem dX12_mills_3 : decode cX12_mills 3 = .ok (.aload_n 0, 1) := by decide +kernel
theorem dX12_mills_4 : decode cX12_mills 4 = .ok (.getfield 176, 3) := by decide +kernel
theorem dX12_mills_7 : decode cX12_mills 7 = .ok (.if_icmp .ge 201, 3) := by decide +kernel
theorem dX12_mills_10 : decode cX12_mills 10 = .ok (.iconst 0, 1) := by decide +kernel
theorem dX12_mills_11 : decode cX12_mills 11 = .ok (.istore_n 2, 1) := by decide +kernel
theorem dX12_mills_12 : decode cX12_mills 12 = .ok (.iconst 0, 1) := by decide +kernel
theorem dX12_mills_13 : decode cX12_mills 13 = .ok (.istore_n 3, 1) := by decide +kernel
theorem dX12_mills_14 : decode cX12_mills 14 = .ok (.iload_n 3, 1) := by decide +kernel
theorem dX12_mills_15 : decode cX12_mills 15 = .ok (.aload_n 0, 1) := by decide +kernel
theorem dX12_mills_16 : decode cX12_mills 16 = .ok (.getfield 354, 3) := by decide +kernel
theorem dX12_mills_19 : decode cX12_mills 19 = .ok (.if_icmp .ge 183, 3) := by decide +kernel
theorem dX12_mills_22 : decode cX12_mills 22 = .ok (.aload_n 0, 1) := by decide +kernel
theorem dX12_mills_23 : decode cX12_mills 23 = .ok (.getfield 133, 3) := by decide +kernel
theorem dX12_mills_26 : decode cX12_mills 26 = .ok (.iload_n 3, 1) := by decide +kernel
theorem dX12_mills_27 : decode cX12_mills 27 = .ok (.iaload, 1) := by decide +kernel
theorem dX12_mills_28 : decode cX12_mills 28 = .ok (.iload_n 1, 1) := by decide +kernel
theorem dX12_mills_29 : decode cX12_mills 29 = .ok (.if_icmp .eq 6, 3) := by decide +kernel
theorem dX12_mills_32 : decode cX12_mills 32 = .ok (.goto 164, 3) := by decide +kernel
theorem dX12_mills_35 : decode cX12_mills 35 = .ok (.iconst 0, 1) := by decide +kernel
theorem dX12_mills_36 : decode cX12_mills 36 = .ok (.istore 4, 2) := by decide +kernel
theorem dX12_mills_38 : decode cX12_mills 38 = .ok (.iload 4, 2) := by decide +kernel
theorem dX12_mills_40 : decode cX12_mills 40 = .ok (.aload_n 0, 1) := by decide +kernel
theorem dX12_mills_41 : decode cX12_mills 41 = .ok (.getfield 83, 3) := by decide +kernel
theorem dX12_mills_44 : decode cX12_mills 44 = .ok (.iload_n 1, 1) := by decide +kernel
theorem dX12_mills_45 : decode cX12_mills 45 = .ok (.iaload, 1) := by decide +kernel
theorem dX12_mills_46 : decode cX12_mills 46 = .ok (.if_icmp .ge 150, 3) := by decide +kernel
theorem dX12_mills_49 : decode cX12_mills 49 = .ok (.aload_n 0, 1) := by decide +kernel
theorem dX12_mills_50 : decode cX12_mills 50 = .ok (.getfield 142, 3) := by decide +kernel
theorem dX12_mills_53 : decode cX12_mills 53 = .ok (.iload_n 3, 1) := by decide +kernel
theorem dX12_mills_54 : decode cX12_mills 54 = .ok (.iaload, 1) := by decide +kernel
theorem dX12_mills_55 : decode cX12_mills 55 = .ok (.ifCond .le 141, 3) := by decide +kernel
theorem dX12_mills_58 : decode cX12_mills 58 = .ok (.iload_n 2, 1) := by decide +kernel
theorem dX12_mills_59 : decode cX12_mills 59 = .ok (.iconst 3, 1) := by decide +kernel
theorem dX12_mills_60 : decode cX12_mills 60 = .ok (.if_icmp .ge 136, 3) := by decide +kernel
theorem dX12_mills_63 : decode cX12_mills 63 = .ok (.aload_n 0, 1) := by decide +kernel
theorem dX12_mills_64 : decode cX12_mills 64 = .ok (.getfield 86, 3) := by decide +kernel
theorem dX12_mills_67 : decode cX12_mills 67 = .ok (.bipush 100, 2) := by decide +kernel
theorem dX12_mills_69 : decode cX12_mills 69 = .ok (.iload_n 1, 1) := by decide +kernel
theorem dX12_mills_70 : decode cX12_mills 70 = .ok (.imul, 1) := by decide +kernel
theorem dX12_mills_71 : decode cX12_mills 71 = .ok (.iload 4, 2) := by decide +kernel
theorem dX12_mills_73 : decode cX12_mills 73 = .ok (.iadd, 1) := by decide +kernel
theorem dX12_mills_74 : decode cX12_mills 74 = .ok (.iaload, 1) := by decide +kernel
theorem dX12_mills_75 : decode cX12_mills 75 = .ok (.istore 5, 2) := by decide +kernel
theorem dX12_mills_77 : decode cX12_mills 77 = .ok (.aload_n 0, 1) := by decide +kernel
theorem dX12_mills_78 : decode cX12_mills 78 = .ok (.getfield 101, 3) := by decide +kernel
theorem dX12_mills_81 : decode cX12_mills 81 = .ok (.iload 5, 2) := by decide +kernel
theorem dX12_mills_83 : decode cX12_mills 83 = .ok (.iaload, 1) := by decide +kernel
theorem dX12_mills_84 : decode cX12_mills 84 = .ok (.aload_n 0, 1) := by decide +kernel
theorem dX12_mills_85 : decode cX12_mills 85 = .ok (.getfield 136, 3) := by decide +kernel
theorem dX12_mills_88 : decode cX12_mills 88 = .ok (.iload_n 3, 1) := by decide +kernel
theorem dX12_mills_89 : decode cX12_mills 89 = .ok (.iaload, 1) := by decide +kernel
theorem dX12_mills_90 : decode cX12_mills 90 = .ok (.if_icmp .ne 19, 3) := by decide +kernel
theorem dX12_mills_93 : decode cX12_mills 93 = .ok (.aload_n 0, 1) := by decide +kernel
theorem dX12_mills_94 : decode cX12_mills 94 = .ok (.getfield 103, 3) := by decide +kernel
theorem dX12_mills_97 : decode cX12_mills 97 = .ok (.iload 5, 2) := by decide +kernel
theorem dX12_mills_99 : decode cX12_mills 99 = .ok (.iaload, 1) := by decide +kernel
theorem dX12_mills_100 : decode cX12_mills 100 = .ok (.aload_n 0, 1) := by decide +kernel
theorem dX12_mills_101 : decode cX12_mills 101 = .ok (.getfield 139, 3) := by decide +kernel
theorem dX12_mills_104 : decode cX12_mills 104 = .ok (.iload_n 3, 1) := by decide +kernel
theorem dX12_mills_105 : decode cX12_mills 105 = .ok (.iaload, 1) := by decide +kernel
theorem dX12_mills_106 : decode cX12_mills 106 = .ok (.if_icmp .ge 9, 3) := by decide +kernel
theorem dX12_mills_109 : decode cX12_mills 109 = .ok (.iinc 4 1, 3) := by decide +kernel
theorem dX12_mills_112 : decode cX12_mills 112 = .ok (.goto (-74), 3) := by decide +kernel
theorem dX12_mills_115 : decode cX12_mills 115 = .ok (.iload 4, 2) := by decide +kernel
theorem dX12_mills_117 : decode cX12_mills 117 = .ok (.istore 6, 2) := by decide +kernel
theorem dX12_mills_119 : decode cX12_mills 119 = .ok (.iload 6, 2) := by decide +kernel
theorem dX12_mills_121 : decode cX12_mills 121 = .ok (.iconst 1, 1) := by decide +kernel
theorem dX12_mills_122 : decode cX12_mills 122 = .ok (.iadd, 1) := by decide +kernel
theorem dX12_mills_123 : decode cX12_mills 123 = .ok (.aload_n 0, 1) := by decide +kernel
theorem dX12_mills_124 : decode cX12_mills 124 = .ok (.getfield 83, 3) := by decide +kernel
theorem dX12_mills_127 : decode cX12_mills 127 = .ok (.iload_n 1, 1) := by decide +kernel
theorem dX12_mills_128 : decode cX12_mills 128 = .ok (.iaload, 1) := by decide +kernel
theorem dX12_mills_129 : decode cX12_mills 129 = .ok (.if_icmp .ge 35, 3) := by decide +kernel
theorem dX12_mills_132 : decode cX12_mills 132 = .ok (.aload_n 0, 1) := by decide +kernel
theorem dX12_mills_133 : decode cX12_mills 133 = .ok (.getfield 86, 3) := by decide +kernel
theorem dX12_mills_136 : decode cX12_mills 136 = .ok (.bipush 100, 2) := by decide +kernel
theorem dX12_mills_138 : decode cX12_mills 138 = .ok (.iload_n 1, 1) := by decide +kernel
theorem dX12_mills_139 : decode cX12_mills 139 = .ok (.imul, 1) := by decide +kernel
theorem dX12_mills_140 : decode cX12_mills 140 = .ok (.iload 6, 2) := by decide +kernel
theorem dX12_mills_142 : decode cX12_mills 142 = .ok (.iadd, 1) := by decide +kernel
theorem dX12_mills_143 : decode cX12_mills 143 = .ok (.aload_n 0, 1) := by decide +kernel
theorem dX12_mills_144 : decode cX12_mills 144 = .ok (.getfield 86, 3) := by decide +kernel
theorem dX12_mills_147 : decode cX12_mills 147 = .ok (.bipush 100, 2) := by decide +kernel
theorem dX12_mills_149 : decode cX12_mills 149 = .ok (.iload_n 1, 1) := by decide +kernel
theorem dX12_mills_150 : decode cX12_mills 150 = .ok (.imul, 1) := by decide +kernel
theorem dX12_mills_151 : decode cX12_mills 151 = .ok (.iload 6, 2) := by decide +kernel
theorem dX12_mills_153 : decode cX12_mills 153 = .ok (.iadd, 1) := by decide +kernel
theorem dX12_mills_154 : decode cX12_mills 154 = .ok (.iconst 1, 1) := by decide +kernel
theorem dX12_mills_155 : decode cX12_mills 155 = .ok (.iadd, 1) := by decide +kernel
theorem dX12_mills_156 : decode cX12_mills 156 = .ok (.iaload, 1) := by decide +kernel
theorem dX12_mills_157 : decode cX12_mills 157 = .ok (.iastore, 1) := by decide +kernel
theorem dX12_mills_158 : decode cX12_mills 158 = .ok (.iinc 6 1, 3) := by decide +kernel
theorem dX12_mills_161 : decode cX12_mills 161 = .ok (.goto (-42), 3) := by decide +kernel
theorem dX12_mills_164 : decode cX12_mills 164 = .ok (.aload_n 0, 1) := by decide +kernel
theorem dX12_mills_165 : decode cX12_mills 165 = .ok (.getfield 83, 3) := by decide +kernel
theorem dX12_mills_168 : decode cX12_mills 168 = .ok (.iload_n 1, 1) := by decide +kernel
theorem dX12_mills_169 : decode cX12_mills 169 = .ok (.dup2, 1) := by decide +kernel
theorem dX12_mills_170 : decode cX12_mills 170 = .ok (.iaload, 1) := by decide +kernel
theorem dX12_mills_171 : decode cX12_mills 171 = .ok (.iconst 1, 1) := by decide +kernel
theorem dX12_mills_172 : decode cX12_mills 172 = .ok (.isub, 1) := by decide +kernel
theorem dX12_mills_173 : decode cX12_mills 173 = .ok (.iastore, 1) := by decide +kernel
theorem dX12_mills_174 : decode cX12_mills 174 = .ok (.aload_n 0, 1) := by decide +kernel
theorem dX12_mills_175 : decode cX12_mills 175 = .ok (.iload 5, 2) := by decide +kernel
theorem dX12_mills_177 : decode cX12_mills 177 = .ok (.invokevirtual 357, 3) := by decide +kernel
theorem dX12_mills_180 : decode cX12_mills 180 = .ok (.aload_n 0, 1) := by decide +kernel
theorem dX12_mills_181 : decode cX12_mills 181 = .ok (.getfield 142, 3) := by decide +kernel
theorem dX12_mills_184 : decode cX12_mills 184 = .ok (.iload_n 3, 1) := by decide +kernel
theorem dX12_mills_185 : decode cX12_mills 185 = .ok (.dup2, 1) := by decide +kernel
theorem dX12_mills_186 : decode cX12_mills 186 = .ok (.iaload, 1) := by decide +kernel
theorem dX12_mills_187 : decode cX12_mills 187 = .ok (.iconst 1, 1) := by decide +kernel
theorem dX12_mills_188 : decode cX12_mills 188 = .ok (.isub, 1) := by decide +kernel
theorem dX12_mills_189 : decode cX12_mills 189 = .ok (.iastore, 1) := by decide +kernel
theorem dX12_mills_190 : decode cX12_mills 190 = .ok (.iinc 2 1, 3) := by decide +kernel
theorem dX12_mills_193 : decode cX12_mills 193 = .ok (.goto (-155), 3) := by decide +kernel
theorem dX12_mills_196 : decode cX12_mills 196 = .ok (.iinc 3 1, 3) := by decide +kernel
theorem dX12_mills_199 : decode cX12_mills 199 = .ok (.goto (-185), 3) := by decide +kernel
theorem dX12_mills_202 : decode cX12_mills 202 = .ok (.iinc 1 1, 3) := by decide +kernel
theorem dX12_mills_205 : decode cX12_mills 205 = .ok (.goto (-203), 3) := by decide +kernel
theorem dX12_mills_208 : decode cX12_mills 208 = .ok (.return_, 1) := by decide +kernel
def wX12_mills_202 (k2 : Int32 → km_S → Prop) (Q : km_S → Prop) (l1 : Int32) (μ : km_S) : Prop := ∀ v1 : Int32, v1 = l1 + 1 → k2 v1 μ
def wX12_mills_196 (k14 : Int32 → Int32 → Int32 → km_S → Prop) (Q : km_S → Prop) (l1 : Int32) (l2 : Int32) (l3 : Int32) (μ : km_S) : Prop := ∀ v2 : Int32, v2 = l3 + 1 → k14 l1 l2 v2 μ
def wX12_mills_109 (k38 : Int32 → Int32 → Int32 → Int32 → km_S → Prop) (Q : km_S → Prop) (l1 : Int32) (l2 : Int32) (l3 : Int32) (l4 : Int32) (μ : km_S) : Prop := ∀ v3 : Int32, v3 = l4 + 1 → k38 l1 l2 l3 v3 μ
def wX12_mills_164 (k38 : Int32 → Int32 → Int32 → Int32 → km_S → Prop) (Q : km_S → Prop) (l1 : Int32) (l2 : Int32) (l3 : Int32) (l4 : Int32) (l5 : Int32) (μ : km_S) : Prop := vp_in l1 10 ∧ vp_in l1 10 ∧ ∀ μ6, μ6 = km_sa μ 29 l1.toNatClampNeg ((km_a μ 29 l1.toNatClampNeg) - 1) → wX12_saw l5 μ6 fun μ7 => vp_in l3 60 ∧ vp_in l3 60 ∧ ∀ μ10, μ10 = km_sa μ7 50 l3.toNatClampNeg ((km_a μ7 50 l3.toNatClampNeg) - 1) → ∀ v11 : Int32, v11 = l2 + 1 → k38 l1 v11 l3 l4 μ10
def wX12_mills_119 (k164 : Int32 → Int32 → Int32 → Int32 → Int32 → km_S → Prop) (Q : km_S → Prop) : Nat → Int32 → Int32 → Int32 → Int32 → Int32 → Int32 → km_S → Prop
  | 0, _, _, _, _, _, _, _ => False
  | n + 1, l1, l2, l3, l4, l5, l6, μ => vp_in l1 10 ∧ (((km_a μ 29 l1.toNatClampNeg) ≤ (l6 + 1) → k164 l1 l2 l3 l4 l5 μ) ∧
    (¬ ((km_a μ 29 l1.toNatClampNeg) ≤ (l6 + 1)) → vp_in (((100 * l1) + l6) + 1) 1000 ∧ vp_in ((100 * l1) + l6) 1000 ∧ ∀ μ16, μ16 = km_sa μ 30 ((100 * l1) + l6).toNatClampNeg (km_a μ 30 (((100 * l1) + l6) + 1).toNatClampNeg) → ∀ v17 : Int32, v17 = l6 + 1 → wX12_mills_119 k164 Q n l1 l2 l3 l4 l5 v17 μ16))
def wX12_mills_38 (k196 : Int32 → Int32 → Int32 → km_S → Prop) (Q : km_S → Prop) : Nat → Int32 → Int32 → Int32 → Int32 → km_S → Prop
  | 0, _, _, _, _, _ => False
  | n + 1, l1, l2, l3, l4, μ => vp_in l1 10 ∧ (((km_a μ 29 l1.toNatClampNeg) ≤ l4 → k196 l1 l2 l3 μ) ∧
    (¬ ((km_a μ 29 l1.toNatClampNeg) ≤ l4) → vp_in l3 60 ∧ (((km_a μ 50 l3.toNatClampNeg) ≤ 0 → k196 l1 l2 l3 μ) ∧
      (¬ ((km_a μ 50 l3.toNatClampNeg) ≤ 0) → ((3 ≤ l2 → k196 l1 l2 l3 μ) ∧
        (¬ (3 ≤ l2) → vp_in ((100 * l1) + l4) 1000 ∧ ∀ v24, v24 = km_a μ 30 ((100 * l1) + l4).toNatClampNeg → vp_in v24 400 ∧ vp_in l3 60 ∧ ((¬ (km_a μ 35 v24.toNatClampNeg) = (km_a μ 48 l3.toNatClampNeg) → wX12_mills_109 (wX12_mills_38 k196 Q n) Q l1 l2 l3 l4 μ) ∧
          ((km_a μ 35 v24.toNatClampNeg) = (km_a μ 48 l3.toNatClampNeg) → vp_in v24 400 ∧ vp_in l3 60 ∧ (((km_a μ 49 l3.toNatClampNeg) ≤ (km_a μ 36 v24.toNatClampNeg) → ∃ j, wX12_mills_119 (wX12_mills_164 (wX12_mills_38 k196 Q n) Q) Q j l1 l2 l3 l4 v24 l4 μ) ∧
            (¬ ((km_a μ 49 l3.toNatClampNeg) ≤ (km_a μ 36 v24.toNatClampNeg)) → wX12_mills_109 (wX12_mills_38 k196 Q n) Q l1 l2 l3 l4 μ))))))))))
def wX12_mills_14 (k202 : Int32 → km_S → Prop) (Q : km_S → Prop) : Nat → Int32 → Int32 → Int32 → km_S → Prop
  | 0, _, _, _, _ => False
  | n + 1, l1, l2, l3, μ => (((km_i μ 8) ≤ l3 → k202 l1 μ) ∧
    (¬ ((km_i μ 8) ≤ l3) → vp_in l3 60 ∧ (((km_a μ 47 l3.toNatClampNeg) = l1 → ∃ j, wX12_mills_38 (wX12_mills_196 (wX12_mills_14 k202 Q n) Q) Q j l1 l2 l3 0 μ) ∧
      (¬ ((km_a μ 47 l3.toNatClampNeg) = l1) → wX12_mills_196 (wX12_mills_14 k202 Q n) Q l1 l2 l3 μ))))
def wX12_mills_2 (Q : km_S → Prop) : Nat → Int32 → km_S → Prop
  | 0, _, _ => False
  | n + 1, l1, μ => (((km_i μ 3) ≤ l1 → Q μ) ∧
    (¬ ((km_i μ 3) ≤ l1) → ∃ j, wX12_mills_14 (wX12_mills_202 (wX12_mills_2 Q n) Q) Q j l1 0 0 μ))
def wX12_mills (μ : km_S) (Q : km_S → Prop) : Prop := ∃ j, wX12_mills_2 Q j 0 μ
set_option maxRecDepth 100000 in
set_option maxHeartbeats 4000000 in
theorem tX12_mills_202 (l : Launch) (G : km_G) {p : Program} {e : Env} {s : State} {m : MethodId} {args : Array Value} {below : List Frame} {meth : Method} {c : Code} (F : CallFix p m c cX12_mills 7 s args kt_ RX12) (hr : meth.sig.returnType = none) (hlocks : meth.locks = false) (Q : km_S → Prop) (k2 : Int32 → km_S → Prop) (hk2 : ∀ (l1 : Int32) (μ : km_S) (H : Heap) (locs : List Loc) (ls : Array Slot), k2 l1 μ → km_X G s H locs μ → lv_has ls 7 [(0, .ref (G.1 0)), (1, .int l1)] → W p l e { frames := 1, cells := 0, slots := 0, locals := 22 } s m args below meth c H locs 0 0 (MQ below (km_Qv G Q) args s 0 0 (km_A G)) (F0 m 2 ls [])) : ∀ (l1 : Int32) (μ : km_S) (H : Heap) (locs : List Loc) (ls : Array Slot), wX12_mills_202 k2 Q l1 μ → km_X G s H locs μ → lv_has ls 7 [(0, .ref (G.1 0)), (1, .int l1)] → W p l e { frames := 1, cells := 0, slots := 0, locals := 22 } s m args below meth c H locs 0 0 (MQ below (km_Qv G Q) args s 0 0 (km_A G)) (F0 m 202 ls []) := by
  intro l1 μ H locs ls h C hl
  obtain ⟨v1, ev1⟩ : ∃ z9 : Int32, z9 = l1 + 1 := ⟨_, rfl⟩
  have h := h v1 ev1
  refine lv_iinc (v := v1) (lv' := [(1, .int v1), (0, .ref (G.1 0))]) F.1 F.2.1 dX12_mills_202 hl (k := 1) rfl (by rw [ev1]; rfl) (by decide) rfl (fun ls hl => ?_)
  refine lv_goto (tgt := 2) F.1 F.2.1 dX12_mills_205 (by decide) ?_
  exact hk2 v1 μ H locs ls h C (lv_sub hl [1, 0] rfl)
set_option maxRecDepth 100000 in
set_option maxHeartbeats 4000000 in
theorem tX12_mills_196 (l : Launch) (G : km_G) {p : Program} {e : Env} {s : State} {m : MethodId} {args : Array Value} {below : List Frame} {meth : Method} {c : Code} (F : CallFix p m c cX12_mills 7 s args kt_ RX12) (hr : meth.sig.returnType = none) (hlocks : meth.locks = false) (Q : km_S → Prop) (k14 : Int32 → Int32 → Int32 → km_S → Prop) (hk14 : ∀ (l1 : Int32) (l2 : Int32) (l3 : Int32) (μ : km_S) (H : Heap) (locs : List Loc) (ls : Array Slot), k14 l1 l2 l3 μ → km_X G s H locs μ → lv_has ls 7 [(0, .ref (G.1 0)), (1, .int l1), (2, .int l2), (3, .int l3)] → W p l e { frames := 1, cells := 0, slots := 0, locals := 22 } s m args below meth c H locs 0 0 (MQ below (km_Qv G Q) args s 0 0 (km_A G)) (F0 m 14 ls [])) : ∀ (l1 : Int32) (l2 : Int32) (l3 : Int32) (μ : km_S) (H : Heap) (locs : List Loc) (ls : Array Slot), wX12_mills_196 k14 Q l1 l2 l3 μ → km_X G s H locs μ → lv_has ls 7 [(0, .ref (G.1 0)), (1, .int l1), (2, .int l2), (3, .int l3)] → W p l e { frames := 1, cells := 0, slots := 0, locals := 22 } s m args below meth c H locs 0 0 (MQ below (km_Qv G Q) args s 0 0 (km_A G)) (F0 m 196 ls []) := by
  intro l1 l2 l3 μ H locs ls h C hl
  obtain ⟨v2, ev2⟩ : ∃ z9 : Int32, z9 = l3 + 1 := ⟨_, rfl⟩
  have h := h v2 ev2
  refine lv_iinc (v := v2) (lv' := [(3, .int v2), (0, .ref (G.1 0)), (1, .int l1), (2, .int l2)]) F.1 F.2.1 dX12_mills_196 hl (k := 3) rfl (by rw [ev2]; rfl) (by decide) rfl (fun ls hl => ?_)
  refine lv_goto (tgt := 14) F.1 F.2.1 dX12_mills_199 (by decide) ?_
  exact hk14 l1 l2 v2 μ H locs ls h C (lv_sub hl [1, 2, 3, 0] rfl)
set_option maxRecDepth 100000 in
set_option maxHeartbeats 4000000 in
theorem tX12_mills_109 (l : Launch) (G : km_G) {p : Program} {e : Env} {s : State} {m : MethodId} {args : Array Value} {below : List Frame} {meth : Method} {c : Code} (F : CallFix p m c cX12_mills 7 s args kt_ RX12) (hr : meth.sig.returnType = none) (hlocks : meth.locks = false) (Q : km_S → Prop) (k38 : Int32 → Int32 → Int32 → Int32 → km_S → Prop) (hk38 : ∀ (l1 : Int32) (l2 : Int32) (l3 : Int32) (l4 : Int32) (μ : km_S) (H : Heap) (locs : List Loc) (ls : Array Slot), k38 l1 l2 l3 l4 μ → km_X G s H locs μ → lv_has ls 7 [(0, .ref (G.1 0)), (1, .int l1), (2, .int l2), (3, .int l3), (4, .int l4)] → W p l e { frames := 1, cells := 0, slots := 0, locals := 22 } s m args below meth c H locs 0 0 (MQ below (km_Qv G Q) args s 0 0 (km_A G)) (F0 m 38 ls [])) : ∀ (l1 : Int32) (l2 : Int32) (l3 : Int32) (l4 : Int32) (μ : km_S) (H : Heap) (locs : List Loc) (ls : Array Slot), wX12_mills_109 k38 Q l1 l2 l3 l4 μ → km_X G s H locs μ → lv_has ls 7 [(0, .ref (G.1 0)), (1, .int l1), (2, .int l2), (3, .int l3), (4, .int l4)] → W p l e { frames := 1, cells := 0, slots := 0, locals := 22 } s m args below meth c H locs 0 0 (MQ below (km_Qv G Q) args s 0 0 (km_A G)) (F0 m 109 ls []) := by
  intro l1 l2 l3 l4 μ H locs ls h C hl
  obtain ⟨v3, ev3⟩ : ∃ z9 : Int32, z9 = l4 + 1 := ⟨_, rfl⟩
  have h := h v3 ev3
  refine lv_iinc (v := v3) (lv' := [(4, .int v3), (0, .ref (G.1 0)), (1, .int l1), (2, .int l2), (3, .int l3)]) F.1 F.2.1 dX12_mills_109 hl (k := 4) rfl (by rw [ev3]; rfl) (by decide) rfl (fun ls hl => ?_)
  refine lv_goto (tgt := 38) F.1 F.2.1 dX12_mills_112 (by decide) ?_
  exact hk38 l1 l2 l3 v3 μ H locs ls h C (lv_sub hl [1, 2, 3, 4, 0] rfl)
set_option maxRecDepth 100000 in
set_option maxHeartbeats 4000000 in
theorem tX12_mills_164 (l : Launch) (G : km_G) {p : Program} {e : Env} {s : State} {m : MethodId} {args : Array Value} {below : List Frame} {meth : Method} {c : Code} (F : CallFix p m c cX12_mills 7 s args kt_ RX12) (hr : meth.sig.returnType = none) (hlocks : meth.locks = false) (Q : km_S → Prop) (k38 : Int32 → Int32 → Int32 → Int32 → km_S → Prop) (hk38 : ∀ (l1 : Int32) (l2 : Int32) (l3 : Int32) (l4 : Int32) (μ : km_S) (H : Heap) (locs : List Loc) (ls : Array Slot), k38 l1 l2 l3 l4 μ → km_X G s H locs μ → lv_has ls 7 [(0, .ref (G.1 0)), (1, .int l1), (2, .int l2), (3, .int l3), (4, .int l4)] → W p l e { frames := 1, cells := 0, slots := 0, locals := 22 } s m args below meth c H locs 0 0 (MQ below (km_Qv G Q) args s 0 0 (km_A G)) (F0 m 38 ls [])) : ∀ (l1 : Int32) (l2 : Int32) (l3 : Int32) (l4 : Int32) (l5 : Int32) (μ : km_S) (H : Heap) (locs : List Loc) (ls : Array Slot), wX12_mills_164 k38 Q l1 l2 l3 l4 l5 μ → km_X G s H locs μ → lv_has ls 7 [(0, .ref (G.1 0)), (1, .int l1), (2, .int l2), (3, .int l3), (4, .int l4), (5, .int l5)] → W p l e { frames := 1, cells := 0, slots := 0, locals := 22 } s m args below meth c H locs 0 0 (MQ below (km_Qv G Q) args s 0 0 (km_A G)) (F0 m 164 ls []) := by
  intro l1 l2 l3 l4 l5 μ H locs ls h C hl
  refine lv_aload_n F.1 F.2.1 dX12_mills_164 rfl (lv_at hl 0 rfl) ?_
  refine kg_heaped F C dX12_mills_165 ?_
  refine lv_iload_n F.1 F.2.1 dX12_mills_168 rfl (lv_at hl 1 rfl) ?_
  refine lv_dup2_11 F.1 F.2.1 dX12_mills_169 rfl rfl ?_
  obtain ⟨hn4, h⟩ := h
  refine kl_heaped F C hn4 dX12_mills_170 ?_
  refine lv_iconst (v := 1) F.1 F.2.1 dX12_mills_171 (by decide) ?_
  refine lv_isub (x := km_a μ 29 l1.toNatClampNeg) (y := 1) F.1 F.2.1 dX12_mills_172 ?_
  obtain ⟨hn5, h⟩ := h
  refine kq_heaped F C hn5 dX12_mills_173 (fun H locs C => ?_)
  generalize eμ6 : km_sa μ 29 l1.toNatClampNeg ((km_a μ 29 l1.toNatClampNeg) - 1) = μ6 at C
  have h := h μ6 eμ6.symm
  refine lv_aload_n F.1 F.2.1 dX12_mills_174 rfl (lv_at hl 0 rfl) ?_
  refine lv_iload F.1 F.2.1 dX12_mills_175 (lv_at hl 5 rfl) ?_
  refine kc_X12_saw F C h (Nat.le_of_ble_eq_true rfl) (Nat.le_of_ble_eq_true rfl) hl.1 (by simp [Value.category]) dX12_mills_177 (fun μ7 H locs h C => ?_)
  refine lv_aload_n F.1 F.2.1 dX12_mills_180 rfl (lv_at hl 0 rfl) ?_
  refine kg_wants F C dX12_mills_181 ?_
  refine lv_iload_n F.1 F.2.1 dX12_mills_184 rfl (lv_at hl 3 rfl) ?_
  refine lv_dup2_11 F.1 F.2.1 dX12_mills_185 rfl rfl ?_
  obtain ⟨hn8, h⟩ := h
  refine kl_wants F C hn8 dX12_mills_186 ?_
  refine lv_iconst (v := 1) F.1 F.2.1 dX12_mills_187 (by decide) ?_
  refine lv_isub (x := km_a μ7 50 l3.toNatClampNeg) (y := 1) F.1 F.2.1 dX12_mills_188 ?_
  obtain ⟨hn9, h⟩ := h
  refine kq_wants F C hn9 dX12_mills_189 (fun H locs C => ?_)
  generalize eμ10 : km_sa μ7 50 l3.toNatClampNeg ((km_a μ7 50 l3.toNatClampNeg) - 1) = μ10 at C
  have h := h μ10 eμ10.symm
  obtain ⟨v11, ev11⟩ : ∃ z9 : Int32, z9 = l2 + 1 := ⟨_, rfl⟩
  have h := h v11 ev11
  refine lv_iinc (v := v11) (lv' := [(2, .int v11), (0, .ref (G.1 0)), (1, .int l1), (3, .int l3), (4, .int l4), (5, .int l5)]) F.1 F.2.1 dX12_mills_190 hl (k := 2) rfl (by rw [ev11]; rfl) (by decide) rfl (fun ls hl => ?_)
  refine lv_goto (tgt := 38) F.1 F.2.1 dX12_mills_193 (by decide) ?_
  exact hk38 l1 v11 l3 l4 μ10 H locs ls h C (lv_sub hl [1, 2, 0, 3, 4] rfl)
set_option maxRecDepth 100000 in
set_option maxHeartbeats 4000000 in
theorem tX12_mills_119 (l : Launch) (G : km_G) {p : Program} {e : Env} {s : State} {m : MethodId} {args : Array Value} {below : List Frame} {meth : Method} {c : Code} (F : CallFix p m c cX12_mills 7 s args kt_ RX12) (hr : meth.sig.returnType = none) (hlocks : meth.locks = false) (Q : km_S → Prop) (k164 : Int32 → Int32 → Int32 → Int32 → Int32 → km_S → Prop) (hk164 : ∀ (l1 : Int32) (l2 : Int32) (l3 : Int32) (l4 : Int32) (l5 : Int32) (μ : km_S) (H : Heap) (locs : List Loc) (ls : Array Slot), k164 l1 l2 l3 l4 l5 μ → km_X G s H locs μ → lv_has ls 7 [(0, .ref (G.1 0)), (1, .int l1), (2, .int l2), (3, .int l3), (4, .int l4), (5, .int l5)] → W p l e { frames := 1, cells := 0, slots := 0, locals := 22 } s m args below meth c H locs 0 0 (MQ below (km_Qv G Q) args s 0 0 (km_A G)) (F0 m 164 ls [])) : ∀ (n : Nat) (l1 : Int32) (l2 : Int32) (l3 : Int32) (l4 : Int32) (l5 : Int32) (l6 : Int32) (μ : km_S) (H : Heap) (locs : List Loc) (ls : Array Slot), wX12_mills_119 k164 Q n l1 l2 l3 l4 l5 l6 μ → km_X G s H locs μ → lv_has ls 7 [(0, .ref (G.1 0)), (1, .int l1), (2, .int l2), (3, .int l3), (4, .int l4), (5, .int l5), (6, .int l6)] → W p l e { frames := 1, cells := 0, slots := 0, locals := 22 } s m args below meth c H locs 0 0 (MQ below (km_Qv G Q) args s 0 0 (km_A G)) (F0 m 119 ls []) := by
  intro n
  induction n with
  | zero => intro l1 l2 l3 l4 l5 l6 μ H locs ls h; exact h.elim
  | succ n ih =>
    intro l1 l2 l3 l4 l5 l6 μ H locs ls h C hl
    refine lv_iload F.1 F.2.1 dX12_mills_119 (lv_at hl 6 rfl) ?_
    refine lv_iconst (v := 1) F.1 F.2.1 dX12_mills_121 (by decide) ?_
    refine lv_iadd (x := l6) (y := 1) F.1 F.2.1 dX12_mills_122 ?_
    refine lv_aload_n F.1 F.2.1 dX12_mills_123 rfl (lv_at hl 0 rfl) ?_
    refine kg_heaped F C dX12_mills_124 ?_
    refine lv_iload_n F.1 F.2.1 dX12_mills_127 rfl (lv_at hl 1 rfl) ?_
    obtain ⟨hn12, h⟩ := h
    refine kl_heaped F C hn12 dX12_mills_128 ?_
    refine lv_icmp_ge (tgt := 164) F.1 F.2.1 dX12_mills_129 (by decide) (fun c13 => ?_) (fun c13 => ?_)
    · have h := h.1 c13
      exact hk164 l1 l2 l3 l4 l5 μ H locs ls h C (lv_sub hl [0, 1, 2, 3, 4, 5] rfl)
    · have h := h.2 c13
      refine lv_aload_n F.1 F.2.1 dX12_mills_132 rfl (lv_at hl 0 rfl) ?_
      refine kg_heap F C dX12_mills_133 ?_
      refine lv_bipush (v := 100) F.1 F.2.1 dX12_mills_136 (by decide) ?_
      refine lv_iload_n F.1 F.2.1 dX12_mills_138 rfl (lv_at hl 1 rfl) ?_
      refine lv_imul (x := 100) (y := l1) F.1 F.2.1 dX12_mills_139 ?_
      refine lv_iload F.1 F.2.1 dX12_mills_140 (lv_at hl 6 rfl) ?_
      refine lv_iadd (x := 100 * l1) (y := l6) F.1 F.2.1 dX12_mills_142 ?_
      refine lv_aload_n F.1 F.2.1 dX12_mills_143 rfl (lv_at hl 0 rfl) ?_
      refine kg_heap F C dX12_mills_144 ?_
      refine lv_bipush (v := 100) F.1 F.2.1 dX12_mills_147 (by decide) ?_
      refine lv_iload_n F.1 F.2.1 dX12_mills_149 rfl (lv_at hl 1 rfl) ?_
      refine lv_imul (x := 100) (y := l1) F.1 F.2.1 dX12_mills_150 ?_
      refine lv_iload F.1 F.2.1 dX12_mills_151 (lv_at hl 6 rfl) ?_
      refine lv_iadd (x := 100 * l1) (y := l6) F.1 F.2.1 dX12_mills_153 ?_
      refine lv_iconst (v := 1) F.1 F.2.1 dX12_mills_154 (by decide) ?_
      refine lv_iadd (x := (100 * l1) + l6) (y := 1) F.1 F.2.1 dX12_mills_155 ?_
      obtain ⟨hn14, h⟩ := h
      refine kl_heap F C hn14 dX12_mills_156 ?_
      obtain ⟨hn15, h⟩ := h
      refine kq_heap F C hn15 dX12_mills_157 (fun H locs C => ?_)
      generalize eμ16 : km_sa μ 30 ((100 * l1) + l6).toNatClampNeg (km_a μ 30 (((100 * l1) + l6) + 1).toNatClampNeg) = μ16 at C
      have h := h μ16 eμ16.symm
      obtain ⟨v17, ev17⟩ : ∃ z9 : Int32, z9 = l6 + 1 := ⟨_, rfl⟩
      have h := h v17 ev17
      refine lv_iinc (v := v17) (lv' := [(6, .int v17), (0, .ref (G.1 0)), (1, .int l1), (2, .int l2), (3, .int l3), (4, .int l4), (5, .int l5)]) F.1 F.2.1 dX12_mills_158 hl (k := 6) rfl (by rw [ev17]; rfl) (by decide) rfl (fun ls hl => ?_)
      refine lv_goto (tgt := 119) F.1 F.2.1 dX12_mills_161 (by decide) ?_
      exact ih l1 l2 l3 l4 l5 v17 μ16 H locs ls h C (lv_sub hl [1, 2, 3, 4, 5, 6, 0] rfl)
set_option maxRecDepth 100000 in
set_option maxHeartbeats 4000000 in
theorem tX12_mills_38 (l : Launch) (G : km_G) {p : Program} {e : Env} {s : State} {m : MethodId} {args : Array Value} {below : List Frame} {meth : Method} {c : Code} (F : CallFix p m c cX12_mills 7 s args kt_ RX12) (hr : meth.sig.returnType = none) (hlocks : meth.locks = false) (Q : km_S → Prop) (k196 : Int32 → Int32 → Int32 → km_S → Prop) (hk196 : ∀ (l1 : Int32) (l2 : Int32) (l3 : Int32) (μ : km_S) (H : Heap) (locs : List Loc) (ls : Array Slot), k196 l1 l2 l3 μ → km_X G s H locs μ → lv_has ls 7 [(0, .ref (G.1 0)), (1, .int l1), (2, .int l2), (3, .int l3)] → W p l e { frames := 1, cells := 0, slots := 0, locals := 22 } s m args below meth c H locs 0 0 (MQ below (km_Qv G Q) args s 0 0 (km_A G)) (F0 m 196 ls [])) : ∀ (n : Nat) (l1 : Int32) (l2 : Int32) (l3 : Int32) (l4 : Int32) (μ : km_S) (H : Heap) (locs : List Loc) (ls : Array Slot), wX12_mills_38 k196 Q n l1 l2 l3 l4 μ → km_X G s H locs μ → lv_has ls 7 [(0, .ref (G.1 0)), (1, .int l1), (2, .int l2), (3, .int l3), (4, .int l4)] → W p l e { frames := 1, cells := 0, slots := 0, locals := 22 } s m args below meth c H locs 0 0 (MQ below (km_Qv G Q) args s 0 0 (km_A G)) (F0 m 38 ls []) := by
  intro n
  induction n with
  | zero => intro l1 l2 l3 l4 μ H locs ls h; exact h.elim
  | succ n ih =>
    intro l1 l2 l3 l4 μ H locs ls h C hl
    refine lv_iload F.1 F.2.1 dX12_mills_38 (lv_at hl 4 rfl) ?_
    refine lv_aload_n F.1 F.2.1 dX12_mills_40 rfl (lv_at hl 0 rfl) ?_
    refine kg_heaped F C dX12_mills_41 ?_
    refine lv_iload_n F.1 F.2.1 dX12_mills_44 rfl (lv_at hl 1 rfl) ?_
    obtain ⟨hn18, h⟩ := h
    refine kl_heaped F C hn18 dX12_mills_45 ?_
    refine lv_icmp_ge (tgt := 196) F.1 F.2.1 dX12_mills_46 (by decide) (fun c19 => ?_) (fun c19 => ?_)
    · have h := h.1 c19
      exact hk196 l1 l2 l3 μ H locs ls h C (lv_sub hl [0, 1, 2, 3] rfl)
    · have h := h.2 c19
      refine lv_aload_n F.1 F.2.1 dX12_mills_49 rfl (lv_at hl 0 rfl) ?_
      refine kg_wants F C dX12_mills_50 ?_
      refine lv_iload_n F.1 F.2.1 dX12_mills_53 rfl (lv_at hl 3 rfl) ?_
      obtain ⟨hn20, h⟩ := h
      refine kl_wants F C hn20 dX12_mills_54 ?_
      refine lv_if_le (tgt := 196) F.1 F.2.1 dX12_mills_55 (by decide) (fun c21 => ?_) (fun c21 => ?_)
      · have h := h.1 c21
        exact hk196 l1 l2 l3 μ H locs ls h C (lv_sub hl [0, 1, 2, 3] rfl)
      · have h := h.2 c21
        refine lv_iload_n F.1 F.2.1 dX12_mills_58 rfl (lv_at hl 2 rfl) ?_
        refine lv_iconst (v := 3) F.1 F.2.1 dX12_mills_59 (by decide) ?_
        refine lv_icmp_ge (tgt := 196) F.1 F.2.1 dX12_mills_60 (by decide) (fun c22 => ?_) (fun c22 => ?_)
        · have h := h.1 c22
          exact hk196 l1 l2 l3 μ H locs ls h C (lv_sub hl [0, 1, 2, 3] rfl)
        · have h := h.2 c22
          refine lv_aload_n F.1 F.2.1 dX12_mills_63 rfl (lv_at hl 0 rfl) ?_
          refine kg_heap F C dX12_mills_64 ?_
          refine lv_bipush (v := 100) F.1 F.2.1 dX12_mills_67 (by decide) ?_
          refine lv_iload_n F.1 F.2.1 dX12_mills_69 rfl (lv_at hl 1 rfl) ?_
          refine lv_imul (x := 100) (y := l1) F.1 F.2.1 dX12_mills_70 ?_
          refine lv_iload F.1 F.2.1 dX12_mills_71 (lv_at hl 4 rfl) ?_
          refine lv_iadd (x := 100 * l1) (y := l4) F.1 F.2.1 dX12_mills_73 ?_
          obtain ⟨hn23, h⟩ := h
          refine kl_heap F C hn23 dX12_mills_74 ?_
          refine lv_topi (fun v24 ev24 => ?_)
          have h := h v24 ev24
          refine lv_istore (lv' := [(5, .int v24), (0, .ref (G.1 0)), (1, .int l1), (2, .int l2), (3, .int l3), (4, .int l4)]) F.1 F.2.1 dX12_mills_75 hl (by decide) rfl (fun ls hl => ?_)
          refine lv_aload_n F.1 F.2.1 dX12_mills_77 rfl (lv_at hl 1 rfl) ?_
          refine kg_mark F C dX12_mills_78 ?_
          refine lv_iload F.1 F.2.1 dX12_mills_81 (lv_at hl 0 rfl) ?_
          obtain ⟨hn25, h⟩ := h
          refine kl_mark F C hn25 dX12_mills_83 ?_
          refine lv_aload_n F.1 F.2.1 dX12_mills_84 rfl (lv_at hl 1 rfl) ?_
          refine kg_orderMark F C dX12_mills_85 ?_
          refine lv_iload_n F.1 F.2.1 dX12_mills_88 rfl (lv_at hl 4 rfl) ?_
          obtain ⟨hn26, h⟩ := h
          refine kl_orderMark F C hn26 dX12_mills_89 ?_
          refine lv_icmp_ne (tgt := 109) F.1 F.2.1 dX12_mills_90 (by decide) (fun c27 => ?_) (fun c27 => ?_)
          · have h := h.1 c27
            exact tX12_mills_109 l G F hr hlocks Q (wX12_mills_38 k196 Q n) (fun l1 l2 l3 l4 μ9 H locs ls h C hl => ih l1 l2 l3 l4 μ9 H locs ls h C hl) l1 l2 l3 l4 μ H locs ls h C (lv_sub hl [1, 2, 3, 4, 5] rfl)
          · have h := h.2 c27
            refine lv_aload_n F.1 F.2.1 dX12_mills_93 rfl (lv_at hl 1 rfl) ?_
            refine kg_size F C dX12_mills_94 ?_
            refine lv_iload F.1 F.2.1 dX12_mills_97 (lv_at hl 0 rfl) ?_
            obtain ⟨hn28, h⟩ := h
            refine kl_size F C hn28 dX12_mills_99 ?_
            refine lv_aload_n F.1 F.2.1 dX12_mills_100 rfl (lv_at hl 1 rfl) ?_
            refine kg_orderSize F C dX12_mills_101 ?_
            refine lv_iload_n F.1 F.2.1 dX12_mills_104 rfl (lv_at hl 4 rfl) ?_
            obtain ⟨hn29, h⟩ := h
            refine kl_orderSize F C hn29 dX12_mills_105 ?_
            refine lv_icmp_ge (tgt := 115) F.1 F.2.1 dX12_mills_106 (by decide) (fun c30 => ?_) (fun c30 => ?_)
            · have h := h.1 c30
              refine lv_iload F.1 F.2.1 dX12_mills_115 (lv_at hl 5 rfl) ?_
              refine lv_istore (lv' := [(6, .int l4), (5, .int v24), (0, .ref (G.1 0)), (1, .int l1), (2, .int l2), (3, .int l3), (4, .int l4)]) F.1 F.2.1 dX12_mills_117 hl (by decide) rfl (fun ls hl => ?_)
              obtain ⟨n31, h⟩ := h
              exact tX12_mills_119 l G F hr hlocks Q (wX12_mills_164 (wX12_mills_38 k196 Q n) Q) (tX12_mills_164 l G F hr hlocks Q (wX12_mills_38 k196 Q n) (fun l1 l2 l3 l4 μ9 H locs ls h C hl => ih l1 l2 l3 l4 μ9 H locs ls h C hl)) n31 l1 l2 l3 l4 v24 l4 μ H locs ls h C (lv_sub hl [2, 3, 4, 5, 6, 1, 0] rfl)
            · have h := h.2 c30
              exact tX12_mills_109 l G F hr hlocks Q (wX12_mills_38 k196 Q n) (fun l1 l2 l3 l4 μ9 H locs ls h C hl => ih l1 l2 l3 l4 μ9 H locs ls h C hl) l1 l2 l3 l4 μ H locs ls h C (lv_sub hl [1, 2, 3, 4, 5] rfl)
set_option maxRecDepth 100000 in
set_option maxHeartbeats 4000000 in
theorem tX12_mills_14 (l : Launch) (G : km_G) {p : Program} {e : Env} {s : State} {m : MethodId} {args : Array Value} {below : List Frame} {meth : Method} {c : Code} (F : CallFix p m c cX12_mills 7 s args kt_ RX12) (hr : meth.sig.returnType = none) (hlocks : meth.locks = false) (Q : km_S → Prop) (k202 : Int32 → km_S → Prop) (hk202 : ∀ (l1 : Int32) (μ : km_S) (H : Heap) (locs : List Loc) (ls : Array Slot), k202 l1 μ → km_X G s H locs μ → lv_has ls 7 [(0, .ref (G.1 0)), (1, .int l1)] → W p l e { frames := 1, cells := 0, slots := 0, locals := 22 } s m args below meth c H locs 0 0 (MQ below (km_Qv G Q) args s 0 0 (km_A G)) (F0 m 202 ls [])) : ∀ (n : Nat) (l1 : Int32) (l2 : Int32) (l3 : Int32) (μ : km_S) (H : Heap) (locs : List Loc) (ls : Array Slot), wX12_mills_14 k202 Q n l1 l2 l3 μ → km_X G s H locs μ → lv_has ls 7 [(0, .ref (G.1 0)), (1, .int l1), (2, .int l2), (3, .int l3)] → W p l e { frames := 1, cells := 0, slots := 0, locals := 22 } s m args below meth c H locs 0 0 (MQ below (km_Qv G Q) args s 0 0 (km_A G)) (F0 m 14 ls []) := by
  intro n
  induction n with
  | zero => intro l1 l2 l3 μ H locs ls h; exact h.elim
  | succ n ih =>
    intro l1 l2 l3 μ H locs ls h C hl
    refine lv_iload_n F.1 F.2.1 dX12_mills_14 rfl (lv_at hl 3 rfl) ?_
    refine lv_aload_n F.1 F.2.1 dX12_mills_15 rfl (lv_at hl 0 rfl) ?_
    refine kg_orders F C dX12_mills_16 ?_
    refine lv_icmp_ge (tgt := 202) F.1 F.2.1 dX12_mills_19 (by decide) (fun c32 => ?_) (fun c32 => ?_)
    · have h := h.1 c32
      exact hk202 l1 μ H locs ls h C (lv_sub hl [0, 1] rfl)
    · have h := h.2 c32
      refine lv_aload_n F.1 F.2.1 dX12_mills_22 rfl (lv_at hl 0 rfl) ?_
      refine kg_orderReach F C dX12_mills_23 ?_
      refine lv_iload_n F.1 F.2.1 dX12_mills_26 rfl (lv_at hl 3 rfl) ?_
      obtain ⟨hn33, h⟩ := h
      refine kl_orderReach F C hn33 dX12_mills_27 ?_
      refine lv_iload_n F.1 F.2.1 dX12_mills_28 rfl (lv_at hl 1 rfl) ?_
      refine lv_icmp_eq (tgt := 35) F.1 F.2.1 dX12_mills_29 (by decide) (fun c34 => ?_) (fun c34 => ?_)
      · have h := h.1 c34
        refine lv_iconst (v := 0) F.1 F.2.1 dX12_mills_35 (by decide) ?_
        refine lv_istore (lv' := [(4, .int 0), (0, .ref (G.1 0)), (1, .int l1), (2, .int l2), (3, .int l3)]) F.1 F.2.1 dX12_mills_36 hl (by decide) rfl (fun ls hl => ?_)
        obtain ⟨n35, h⟩ := h
        exact tX12_mills_38 l G F hr hlocks Q (wX12_mills_196 (wX12_mills_14 k202 Q n) Q) (tX12_mills_196 l G F hr hlocks Q (wX12_mills_14 k202 Q n) (fun l1 l2 l3 μ9 H locs ls h C hl => ih l1 l2 l3 μ9 H locs ls h C hl)) n35 l1 l2 l3 0 μ H locs ls h C (lv_sub hl [1, 2, 3, 4, 0] rfl)
      · have h := h.2 c34
        refine lv_goto (tgt := 196) F.1 F.2.1 dX12_mills_32 (by decide) ?_
        exact tX12_mills_196 l G F hr hlocks Q (wX12_mills_14 k202 Q n) (fun l1 l2 l3 μ9 H locs ls h C hl => ih l1 l2 l3 μ9 H locs ls h C hl) l1 l2 l3 μ H locs ls h C (lv_sub hl [0, 1, 2, 3] rfl)
set_option maxRecDepth 100000 in
set_option maxHeartbeats 4000000 in
theorem tX12_mills_2 (l : Launch) (G : km_G) {p : Program} {e : Env} {s : State} {m : MethodId} {args : Array Value} {below : List Frame} {meth : Method} {c : Code} (F : CallFix p m c cX12_mills 7 s args kt_ RX12) (hr : meth.sig.returnType = none) (hlocks : meth.locks = false) (Q : km_S → Prop) : ∀ (n : Nat) (l1 : Int32) (μ : km_S) (H : Heap) (locs : List Loc) (ls : Array Slot), wX12_mills_2 Q n l1 μ → km_X G s H locs μ → lv_has ls 7 [(0, .ref (G.1 0)), (1, .int l1)] → W p l e { frames := 1, cells := 0, slots := 0, locals := 22 } s m args below meth c H locs 0 0 (MQ below (km_Qv G Q) args s 0 0 (km_A G)) (F0 m 2 ls []) := by
  intro n
  induction n with
  | zero => intro l1 μ H locs ls h; exact h.elim
  | succ n ih =>
    intro l1 μ H locs ls h C hl
    refine lv_iload_n F.1 F.2.1 dX12_mills_2 rfl (lv_at hl 1 rfl) ?_
    refine lv_aload_n F.1 F.2.1 dX12_mills_3 rfl (lv_at hl 0 rfl) ?_
    refine kg_reaches F C dX12_mills_4 ?_
    refine lv_icmp_ge (tgt := 208) F.1 F.2.1 dX12_mills_7 (by decide) (fun c36 => ?_) (fun c36 => ?_)
    · have h := h.1 c36
      exact km_vret F C hr hlocks h dX12_mills_208
    · have h := h.2 c36
      refine lv_iconst (v := 0) F.1 F.2.1 dX12_mills_10 (by decide) ?_
      refine lv_istore_n (lv' := [(2, .int 0), (0, .ref (G.1 0)), (1, .int l1)]) F.1 F.2.1 dX12_mills_11 rfl hl (by decide) rfl (fun ls hl => ?_)
      refine lv_iconst (v := 0) F.1 F.2.1 dX12_mills_12 (by decide) ?_
      refine lv_istore_n (lv' := [(3, .int 0), (2, .int 0), (0, .ref (G.1 0)), (1, .int l1)]) F.1 F.2.1 dX12_mills_13 rfl hl (by decide) rfl (fun ls hl => ?_)
      obtain ⟨n37, h⟩ := h
      exact tX12_mills_14 l G F hr hlocks Q (wX12_mills_202 (wX12_mills_2 Q n) Q) (tX12_mills_202 l G F hr hlocks Q (wX12_mills_2 Q n) (fun l1 μ9 H locs ls h C hl => ih l1 μ9 H locs ls h C hl)) n37 l1 0 0 μ H locs ls h C (lv_sub hl [2, 3, 1, 0] rfl)
set_option maxRecDepth 100000 in
set_option maxHeartbeats 4000000 in
theorem hc_X12_mills (l : Launch) (G : km_G) (μ : km_S) (Q : km_S → Prop) (h : wX12_mills μ Q) : km_M l G yX12_mills cX12_mills 7 none (1) (22) [.ref (G.1 0)] μ (km_Qv G Q) := by
  refine km_enter (by decide) rfl (Nat.le_of_ble_eq_true rfl) ?_
  intro p e s m below meth c ls F hr hlocks C hl
  have hl : lv_has ls 7 [(0, .ref (G.1 0))] := hl
  obtain ⟨H, eH⟩ : ∃ z9, z9 = s.heap := ⟨_, rfl⟩
  obtain ⟨locs, eL⟩ : ∃ z9 : List Loc, z9 = [] := ⟨_, rfl⟩
  rw [← eH, ← eL] at C
  rw [← eH, ← eL]
  refine lv_iconst (v := 0) F.1 F.2.1 dX12_mills_0 (by decide) ?_
  refine lv_istore_n (lv' := [(1, .int 0), (0, .ref (G.1 0))]) F.1 F.2.1 dX12_mills_1 rfl hl (by decide) rfl (fun ls hl => ?_)
  obtain ⟨n38, h⟩ := h
  exact tX12_mills_2 l G F hr hlocks Q n38 0 μ H locs ls h C (lv_sub hl [1, 0] rfl)
section
variable {p : Program} {l : Launch} {e : Env} {R : Room} {s : State} {m : MethodId} {args : Array Value} {below : List Frame} {meth : Method} {c : Code} {H : Heap} {locs : List Loc} {Q : State → Prop}
variable {cc : ByteArray} {pc nL : Nat} {ls : Array Slot} {rest : List Value} {G : km_G} {μ : km_S}
theorem kc_X12_mills (F : CallFix p m c cc nL s args kt_ RX12) (C : km_X G s H locs μ) {P : km_S → Prop} (h : wX12_mills μ P) (h1 : (1) + 1 ≤ R.frames) (h2 : 8 + (7 + 11) + (22) ≤ R.locals) (hsz : ls.size = nL) (hW : (rest.map fun v => v.category).sum ≤ 8) (hdg : decode cc pc = .ok (.invokevirtual 375, 3)) (kk : ∀ (μ' : km_S) (H1 : Heap) (locs1 : List Loc), P μ' → km_X G s H1 locs1 μ' → W p l e R s m args below meth c H1 locs1 0 0 Q (F0 m (pc + 3) ls rest)) : W p l e R s m args below meth c H locs 0 0 Q (F0 m pc ls (.ref (G.1 0) :: rest)) :=
  km_cVv (n := 0) (As := []) F C (hc_X12_mills l G μ P h) (kt_V tw_252 tw_253 tw_254 tw_151 tw_255) (by decide +kernel) ⟨h1, h2⟩ rfl hsz hW hdg kk
end
theorem dX12_hours_0 : decode cX12_hours 0 = .ok (.aload_n 0, 1) := by decide +kernel
theorem dX12_hours_1 : decode cX12_hours 1 = .ok (.iconst 0, 1) := by decide +kernel
theorem dX12_hours_2 : decode cX12_hours 2 = .ok (.putfield 173, 3) := by decide +kernel
theorem dX12_hours_5 : decode cX12_hours 5 = .ok (.iload_n 1, 1) := by decide +kernel
theorem dX12_hours_6 : decode cX12_hours 6 = .ok (.ifCond .lt 22, 3) := by decide +kernel
theorem dX12_hours_9 : decode cX12_hours 9 = .ok (.iload_n 1, 1) := by decide +kernel
theorem dX12_hours_10 : decode cX12_hours 10 = .ok (.sipush 200, 3) := by decide +kernel
theorem dX12_hours_13 : decode cX12_hours 13 = .ok (.if_icmp .gt 15, 3) := by decide +kernel
theorem dX12_hours_16 : decode cX12_hours 16 = .ok (.aload_n 0, 1) := by decide +kernel
theorem dX12_hours_17 : decode cX12_hours 17 = .ok (.getfield 192, 3) := by decide +kernel
theorem dX12_hours_20 : decode cX12_hours 20 = .ok (.iload_n 1, 1) := by decide +kernel
theorem dX12_hours_21 : decode cX12_hours 21 = .ok (.iadd, 1) := by decide +kernel
theorem dX12_hours_22 : decode cX12_hours 22 = .ok (.sipush 20000, 3) := by decide +kernel
theorem dX12_hours_25 : decode cX12_hours 25 = .ok (.if_icmp .le 8, 3) := by decide +kernel
theorem dX12_hours_28 : decode cX12_hours 28 = .ok (.aload_n 0, 1) := by decide +kernel
theorem dX12_hours_29 : decode cX12_hours 29 = .ok (.invokevirtual 183, 3) := by decide +kernel
theorem dX12_hours_32 : decode cX12_hours 32 = .ok (.ireturn, 1) := by decide +kernel
theorem dX12_hours_33 : decode cX12_hours 33 = .ok (.iconst 0, 1) := by decide +kernel
theorem dX12_hours_34 : decode cX12_hours 34 = .ok (.istore_n 2, 1) := by decide +kernel
theorem dX12_hours_35 : decode cX12_hours 35 = .ok (.iload_n 2, 1) := by decide +kernel
theorem dX12_hours_36 : decode cX12_hours 36 = .ok (.iload_n 1, 1) := by decide +kernel
theorem dX12_hours_37 : decode cX12_hours 37 = .ok (.if_icmp .ge 39, 3) := by decide +kernel
theorem dX12_hours_40 : decode cX12_hours 40 = .ok (.aload_n 0, 1) := by decide +kernel
theorem dX12_hours_41 : decode cX12_hours 41 = .ok (.invokevirtual 363, 3) := by decide +kernel
theorem dX12_hours_44 : decode cX12_hours 44 = .ok (.aload_n 0, 1) := by decide +kernel
theorem dX12_hours_45 : decode cX12_hours 45 = .ok (.invokevirtual 366, 3) := by decide +kernel
theorem dX12_hours_48 : decode cX12_hours 48 = .ok (.aload_n 0, 1) := by decide +kernel
theorem dX12_hours_49 : decode cX12_hours 49 = .ok (.invokevirtual 369, 3) := by decide +kernel
theorem dX12_hours_52 : decode cX12_hours 52 = .ok (.aload_n 0, 1) := by decide +kernel
theorem dX12_hours_53 : decode cX12_hours 53 = .ok (.invokevirtual 372, 3) := by decide +kernel
theorem dX12_hours_56 : decode cX12_hours 56 = .ok (.aload_n 0, 1) := by decide +kernel
theorem dX12_hours_57 : decode cX12_hours 57 = .ok (.invokevirtual 375, 3) := by decide +kernel
theorem dX12_hours_60 : decode cX12_hours 60 = .ok (.aload_n 0, 1) := by decide +kernel
theorem dX12_hours_61 : decode cX12_hours 61 = .ok (.dup, 1) := by decide +kernel
theorem dX12_hours_62 : decode cX12_hours 62 = .ok (.getfield 192, 3) := by decide +kernel
theorem dX12_hours_65 : decode cX12_hours 65 = .ok (.iconst 1, 1) := by decide +kernel
theorem dX12_hours_66 : decode cX12_hours 66 = .ok (.iadd, 1) := by decide +kernel
theorem dX12_hours_67 : decode cX12_hours 67 = .ok (.putfield 192, 3) := by decide +kernel
theorem dX12_hours_70 : decode cX12_hours 70 = .ok (.iinc 2 1, 3) := by decide +kernel
theorem dX12_hours_73 : decode cX12_hours 73 = .ok (.goto (-38), 3) := by decide +kernel
theorem dX12_hours_76 : decode cX12_hours 76 = .ok (.aload_n 0, 1) := by decide +kernel
theorem dX12_hours_77 : decode cX12_hours 77 = .ok (.getfield 192, 3) := by decide +kernel
theorem dX12_hours_80 : decode cX12_hours 80 = .ok (.ireturn, 1) := by decide +kernel
def wX12_hours_76 (Q : Int32 → km_S → Prop) (μ : km_S) : Prop := Q (km_i μ 2) μ
def wX12_hours_28 (Q : Int32 → km_S → Prop) (μ : km_S) : Prop := wX12_fail μ fun r2 μ1 => Q r2 μ1
def wX12_hours_35 (k76 : km_S → Prop) (Q : Int32 → km_S → Prop) : Nat → Int32 → Int32 → km_S → Prop
  | 0, _, _, _ => False
  | n + 1, l1, l2, μ => ((l1 ≤ l2 → k76 μ) ∧
    (¬ (l1 ≤ l2) → wX12_waterGoes μ fun μ4 => wX12_move μ4 fun μ5 => wX12_jams μ5 fun μ6 => wX12_older μ6 fun μ7 => wX12_mills μ7 fun μ8 => ∀ μ9, μ9 = km_si μ8 2 ((km_i μ8 2) + 1) → ∀ v10 : Int32, v10 = l2 + 1 → wX12_hours_35 k76 Q n l1 v10 μ9))
def wX12_hours (l1 : Int32) (μ : km_S) (Q : Int32 → km_S → Prop) : Prop := ∀ μ11, μ11 = km_si μ 1 0 → ((l1 < 0 → wX12_hours_28 Q μ11) ∧
  (¬ (l1 < 0) → ((200 < l1 → wX12_hours_28 Q μ11) ∧
    (¬ (200 < l1) → ((((km_i μ11 2) + l1) ≤ 20000 → ∃ j, wX12_hours_35 (wX12_hours_76 Q) Q j l1 0 μ11) ∧
      (¬ (((km_i μ11 2) + l1) ≤ 20000) → wX12_hours_28 Q μ11))))))
set_option maxRecDepth 100000 in
set_option maxHeartbeats 4000000 in
theorem tX12_hours_76 (l : Launch) (G : km_G) {p : Program} {e : Env} {s : State} {m : MethodId} {args : Array Value} {below : List Frame} {meth : Method} {c : Code} (F : CallFix p m c cX12_hours 3 s args kt_ RX12) (hr : meth.sig.returnType = (some .int)) (hlocks : meth.locks = false) (Q : Int32 → km_S → Prop) : ∀ (μ : km_S) (H : Heap) (locs : List Loc) (ls : Array Slot), wX12_hours_76 Q μ → km_X G s H locs μ → lv_has ls 3 [(0, .ref (G.1 0))] → W p l e { frames := 6, cells := 0, slots := 0, locals := 149 } s m args below meth c H locs 0 0 (MQ below (km_Qi G Q) args s 0 0 (km_A G)) (F0 m 76 ls []) := by
  intro  μ H locs ls h C hl
  refine lv_aload_n F.1 F.2.1 dX12_hours_76 rfl (lv_at hl 0 rfl) ?_
  refine kg_now F C dX12_hours_77 ?_
  exact km_iret F C hr hlocks h dX12_hours_80
set_option maxRecDepth 100000 in
set_option maxHeartbeats 4000000 in
theorem tX12_hours_28 (l : Launch) (G : km_G) {p : Program} {e : Env} {s : State} {m : MethodId} {args : Array Value} {below : List Frame} {meth : Method} {c : Code} (F : CallFix p m c cX12_hours 3 s args kt_ RX12) (hr : meth.sig.returnType = (some .int)) (hlocks : meth.locks = false) (Q : Int32 → km_S → Prop) : ∀ (μ : km_S) (H : Heap) (locs : List Loc) (ls : Array Slot), wX12_hours_28 Q μ → km_X G s H locs μ → lv_has ls 3 [(0, .ref (G.1 0))] → W p l e { frames := 6, cells := 0, slots := 0, locals := 149 } s m args below meth c H locs 0 0 (MQ below (km_Qi G Q) args s 0 0 (km_A G)) (F0 m 28 ls []) := by
  intro  μ H locs ls h C hl
  refine lv_aload_n F.1 F.2.1 dX12_hours_28 rfl (lv_at hl 0 rfl) ?_
  refine kc_X12_fail F C h (Nat.le_of_ble_eq_true rfl) (Nat.le_of_ble_eq_true rfl) hl.1 (by simp [Value.category]) dX12_hours_29 (fun r2 μ1 H locs h C => ?_)
  exact km_iret F C hr hlocks h dX12_hours_32
set_option maxRecDepth 100000 in
set_option maxHeartbeats 4000000 in
theorem tX12_hours_35 (l : Launch) (G : km_G) {p : Program} {e : Env} {s : State} {m : MethodId} {args : Array Value} {below : List Frame} {meth : Method} {c : Code} (F : CallFix p m c cX12_hours 3 s args kt_ RX12) (hr : meth.sig.returnType = (some .int)) (hlocks : meth.locks = false) (Q : Int32 → km_S → Prop) (k76 : km_S → Prop) (hk76 : ∀  (μ : km_S) (H : Heap) (locs : List Loc) (ls : Array Slot), k76  μ → km_X G s H locs μ → lv_has ls 3 [(0, .ref (G.1 0))] → W p l e { frames := 6, cells := 0, slots := 0, locals := 149 } s m args below meth c H locs 0 0 (MQ below (km_Qi G Q) args s 0 0 (km_A G)) (F0 m 76 ls [])) : ∀ (n : Nat) (l1 : Int32) (l2 : Int32) (μ : km_S) (H : Heap) (locs : List Loc) (ls : Array Slot), wX12_hours_35 k76 Q n l1 l2 μ → km_X G s H locs μ → lv_has ls 3 [(0, .ref (G.1 0)), (1, .int l1), (2, .int l2)] → W p l e { frames := 6, cells := 0, slots := 0, locals := 149 } s m args below meth c H locs 0 0 (MQ below (km_Qi G Q) args s 0 0 (km_A G)) (F0 m 35 ls []) := by
  intro n
  induction n with
  | zero => intro l1 l2 μ H locs ls h; exact h.elim
  | succ n ih =>
    intro l1 l2 μ H locs ls h C hl
    refine lv_iload_n F.1 F.2.1 dX12_hours_35 rfl (lv_at hl 2 rfl) ?_
    refine lv_iload_n F.1 F.2.1 dX12_hours_36 rfl (lv_at hl 1 rfl) ?_
    refine lv_icmp_ge (tgt := 76) F.1 F.2.1 dX12_hours_37 (by decide) (fun c3 => ?_) (fun c3 => ?_)
    · have h := h.1 c3
      exact hk76 μ H locs ls h C (lv_sub hl [0] rfl)
    · have h := h.2 c3
      refine lv_aload_n F.1 F.2.1 dX12_hours_40 rfl (lv_at hl 0 rfl) ?_
      refine kc_X12_waterGoes F C h (Nat.le_of_ble_eq_true rfl) (Nat.le_of_ble_eq_true rfl) hl.1 (by simp [Value.category]) dX12_hours_41 (fun μ4 H locs h C => ?_)
      refine lv_aload_n F.1 F.2.1 dX12_hours_44 rfl (lv_at hl 0 rfl) ?_
      refine kc_X12_move F C h (Nat.le_of_ble_eq_true rfl) (Nat.le_of_ble_eq_true rfl) hl.1 (by simp [Value.category]) dX12_hours_45 (fun μ5 H locs h C => ?_)
      refine lv_aload_n F.1 F.2.1 dX12_hours_48 rfl (lv_at hl 0 rfl) ?_
      refine kc_X12_jams F C h (Nat.le_of_ble_eq_true rfl) (Nat.le_of_ble_eq_true rfl) hl.1 (by simp [Value.category]) dX12_hours_49 (fun μ6 H locs h C => ?_)
      refine lv_aload_n F.1 F.2.1 dX12_hours_52 rfl (lv_at hl 0 rfl) ?_
      refine kc_X12_older F C h (Nat.le_of_ble_eq_true rfl) (Nat.le_of_ble_eq_true rfl) hl.1 (by simp [Value.category]) dX12_hours_53 (fun μ7 H locs h C => ?_)
      refine lv_aload_n F.1 F.2.1 dX12_hours_56 rfl (lv_at hl 0 rfl) ?_
      refine kc_X12_mills F C h (Nat.le_of_ble_eq_true rfl) (Nat.le_of_ble_eq_true rfl) hl.1 (by simp [Value.category]) dX12_hours_57 (fun μ8 H locs h C => ?_)
      refine lv_aload_n F.1 F.2.1 dX12_hours_60 rfl (lv_at hl 0 rfl) ?_
      refine lv_dup F.1 F.2.1 dX12_hours_61 rfl ?_
      refine kg_now F C dX12_hours_62 ?_
      refine lv_iconst (v := 1) F.1 F.2.1 dX12_hours_65 (by decide) ?_
      refine lv_iadd (x := km_i μ8 2) (y := 1) F.1 F.2.1 dX12_hours_66 ?_
      refine kp_now F C dX12_hours_67 (fun H locs C => ?_)
      generalize eμ9 : km_si μ8 2 ((km_i μ8 2) + 1) = μ9 at C
      have h := h μ9 eμ9.symm
      obtain ⟨v10, ev10⟩ : ∃ z9 : Int32, z9 = l2 + 1 := ⟨_, rfl⟩
      have h := h v10 ev10
      refine lv_iinc (v := v10) (lv' := [(2, .int v10), (0, .ref (G.1 0)), (1, .int l1)]) F.1 F.2.1 dX12_hours_70 hl (k := 2) rfl (by rw [ev10]; rfl) (by decide) rfl (fun ls hl => ?_)
      refine lv_goto (tgt := 35) F.1 F.2.1 dX12_hours_73 (by decide) ?_
      exact ih l1 v10 μ9 H locs ls h C (lv_sub hl [1, 2, 0] rfl)
set_option maxRecDepth 100000 in
set_option maxHeartbeats 4000000 in
theorem hc_X12_hours (l : Launch) (G : km_G) (l1 : Int32) (μ : km_S) (Q : Int32 → km_S → Prop) (h : wX12_hours l1 μ Q) : km_M l G yX12_hours cX12_hours 3 (some .int) (6) (149) [.ref (G.1 0), .int l1] μ (km_Qi G Q) := by
  refine km_enter (by decide) rfl (Nat.le_of_ble_eq_true rfl) ?_
  intro p e s m below meth c ls F hr hlocks C hl
  have hl : lv_has ls 3 [(0, .ref (G.1 0)), (1, .int l1)] := hl
  obtain ⟨H, eH⟩ : ∃ z9, z9 = s.heap := ⟨_, rfl⟩
  obtain ⟨locs, eL⟩ : ∃ z9 : List Loc, z9 = [] := ⟨_, rfl⟩
  rw [← eH, ← eL] at C
  rw [← eH, ← eL]
  refine lv_aload_n F.1 F.2.1 dX12_hours_0 rfl (lv_at hl 0 rfl) ?_
  refine lv_iconst (v := 0) F.1 F.2.1 dX12_hours_1 (by decide) ?_
  refine kp_code F C dX12_hours_2 (fun H locs C => ?_)
  generalize eμ11 : km_si μ 1 0 = μ11 at C
  have h := h μ11 eμ11.symm
  refine lv_iload_n F.1 F.2.1 dX12_hours_5 rfl (lv_at hl 1 rfl) ?_
  refine lv_if_lt (tgt := 28) F.1 F.2.1 dX12_hours_6 (by decide) (fun c12 => ?_) (fun c12 => ?_)
  · have h := h.1 c12
    exact tX12_hours_28 l G F hr hlocks Q μ11 H locs ls h C (lv_sub hl [0] rfl)
  · have h := h.2 c12
    refine lv_iload_n F.1 F.2.1 dX12_hours_9 rfl (lv_at hl 1 rfl) ?_
    refine lv_sipush (v := 200) F.1 F.2.1 dX12_hours_10 (by decide) ?_
    refine lv_icmp_gt (tgt := 28) F.1 F.2.1 dX12_hours_13 (by decide) (fun c13 => ?_) (fun c13 => ?_)
    · have h := h.1 c13
      exact tX12_hours_28 l G F hr hlocks Q μ11 H locs ls h C (lv_sub hl [0] rfl)
    · have h := h.2 c13
      refine lv_aload_n F.1 F.2.1 dX12_hours_16 rfl (lv_at hl 0 rfl) ?_
      refine kg_now F C dX12_hours_17 ?_
      refine lv_iload_n F.1 F.2.1 dX12_hours_20 rfl (lv_at hl 1 rfl) ?_
      refine lv_iadd (x := km_i μ11 2) (y := l1) F.1 F.2.1 dX12_hours_21 ?_
      refine lv_sipush (v := 20000) F.1 F.2.1 dX12_hours_22 (by decide) ?_
      refine lv_icmp_le (tgt := 33) F.1 F.2.1 dX12_hours_25 (by decide) (fun c14 => ?_) (fun c14 => ?_)
      · have h := h.1 c14
        refine lv_iconst (v := 0) F.1 F.2.1 dX12_hours_33 (by decide) ?_
        refine lv_istore_n (lv' := [(2, .int 0), (0, .ref (G.1 0)), (1, .int l1)]) F.1 F.2.1 dX12_hours_34 rfl hl (by decide) rfl (fun ls hl => ?_)
        obtain ⟨n15, h⟩ := h
        exact tX12_hours_35 l G F hr hlocks Q (wX12_hours_76 Q) (tX12_hours_76 l G F hr hlocks Q) n15 l1 0 μ11 H locs ls h C (lv_sub hl [1, 2, 0] rfl)
      · have h := h.2 c14
        exact tX12_hours_28 l G F hr hlocks Q μ11 H locs ls h C (lv_sub hl [0] rfl)
section
variable {p : Program} {l : Launch} {e : Env} {R : Room} {s : State} {m : MethodId} {args : Array Value} {below : List Frame} {meth : Method} {c : Code} {H : Heap} {locs : List Loc} {Q : State → Prop}
variable {cc : ByteArray} {pc nL : Nat} {ls : Array Slot} {rest : List Value} {G : km_G} {μ : km_S}
end

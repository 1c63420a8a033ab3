theorem dX12_reach_0 : decode cX12_reach 0 = .ok (.aload_n 0, 1) := by decide +kernel
theorem dX12_reach_1 : decode cX12_reach 1 = .ok (.iconst 0, 1) := by decide +kernel
theorem dX12_reach_2 : decode cX12_reach 2 = .ok (.putfield 173, 3) := by decide +kernel
theorem dX12_reach_5 : decode cX12_reach 5 = .ok (.aload_n 0, 1) := by decide +kernel
theorem dX12_reach_6 : decode cX12_reach 6 = .ok (.getfield 176, 3) := by decide +kernel
theorem dX12_reach_9 : decode cX12_reach 9 = .ok (.bipush 10, 2) := by decide +kernel
theorem dX12_reach_11 : decode cX12_reach 11 = .ok (.if_icmp .eq 51, 3) := by decide +kernel
theorem dX12_reach_14 : decode cX12_reach 14 = .ok (.iload_n 1, 1) := by decide +kernel
theorem dX12_reach_15 : decode cX12_reach 15 = .ok (.iconst (-1), 1) := by decide +kernel
theorem dX12_reach_16 : decode cX12_reach 16 = .ok (.if_icmp .lt 46, 3) := by decide +kernel
theorem dX12_reach_19 : decode cX12_reach 19 = .ok (.iload_n 1, 1) := by decide +kernel
theorem dX12_reach_20 : decode cX12_reach 20 = .ok (.aload_n 0, 1) := by decide +kernel
theorem dX12_reach_21 : decode cX12_reach 21 = .ok (.getfield 176, 3) := by decide +kernel
theorem dX12_reach_24 : decode cX12_reach 24 = .ok (.if_icmp .ge 38, 3) := by decide +kernel
theorem dX12_reach_27 : decode cX12_reach 27 = .ok (.iload_n 2, 1) := by decide +kernel
theorem dX12_reach_28 : decode cX12_reach 28 = .ok (.iconst 1, 1) := by decide +kernel
theorem dX12_reach_29 : decode cX12_reach 29 = .ok (.if_icmp .lt 33, 3) := by decide +kernel
theorem dX12_reach_32 : decode cX12_reach 32 = .ok (.iload_n 2, 1) := by decide +kernel
theorem dX12_reach_33 : decode cX12_reach 33 = .ok (.bipush 12, 2) := by decide +kernel
theorem dX12_reach_35 : decode cX12_reach 35 = .ok (.if_icmp .gt 27, 3) := by decide +kernel
theorem dX12_reach_38 : decode cX12_reach 38 = .ok (.iload_n 3, 1) := by decide +kernel
theorem dX12_reach_39 : decode cX12_reach 39 = .ok (.iconst 1, 1) := by decide +kernel
theorem dX12_reach_40 : decode cX12_reach 40 = .ok (.if_icmp .lt 22, 3) := by decide +kernel
theorem dX12_reach_43 : decode cX12_reach 43 = .ok (.iload_n 3, 1) := by decide +kernel
theorem dX12_reach_44 : decode cX12_reach 44 = .ok (.bipush 20, 2) := by decide +kernel
theorem dX12_reach_46 : decode cX12_reach 46 = .ok (.if_icmp .gt 16, 3) := by decide +kernel
theorem dX12_reach_49 : decode cX12_reach 49 = .ok (.iload 4, 2) := by decide +kernel
theorem dX12_reach_51 : decode cX12_reach 51 = .ok (.ifCond .lt 11, 3) := by decide +kernel
theorem dX12_reach_54 : decode cX12_reach 54 = .ok (.iload 4, 2) := by decide +kernel
theorem dX12_reach_56 : decode cX12_reach 56 = .ok (.sipush 1000, 3) := by decide +kernel
theorem dX12_reach_59 : decode cX12_reach 59 = .ok (.if_icmp .le 5, 3) := by decide +kernel
theorem dX12_reach_62 : decode cX12_reach 62 = .ok (.iconst (-1), 1) := by decide +kernel
theorem dX12_reach_63 : decode cX12_reach 63 = .ok (.ireturn, 1) := by decide +kernel
theorem dX12_reach_64 : decode cX12_reach 64 = .ok (.aload_n 0, 1) := by decide +kernel
theorem dX12_reach_65 : decode cX12_reach 65 = .ok (.getfield 33, 3) := by decide +kernel
theorem dX12_reach_68 : decode cX12_reach 68 = .ok (.aload_n 0, 1) := by decide +kernel
theorem dX12_reach_69 : decode cX12_reach 69 = .ok (.getfield 176, 3) := by decide +kernel
theorem dX12_reach_72 : decode cX12_reach 72 = .ok (.iload_n 1, 1) := by decide +kernel
theorem dX12_reach_73 : decode cX12_reach 73 = .ok (.iastore, 1) := by decide +kernel
theorem dX12_reach_74 : decode cX12_reach 74 = .ok (.aload_n 0, 1) := by decide +kernel
theorem dX12_reach_75 : decode cX12_reach 75 = .ok (.getfield 37, 3) := by decide +kernel
theorem dX12_reach_78 : decode cX12_reach 78 = .ok (.aload_n 0, 1) := by decide +kernel
theorem dX12_reach_79 : decode cX12_reach 79 = .ok (.getfield 176, 3) := by decide +kernel
theorem dX12_reach_82 : decode cX12_reach 82 = .ok (.iload_n 2, 1) := by decide +kernel
theorem dX12_reach_83 : decode cX12_reach 83 = .ok (.iastore, 1) := by decide +kernel
theorem dX12_reach_84 : decode cX12_reach 84 = .ok (.aload_n 0, 1) := by decide +kernel
theorem dX12_reach_85 : decode cX12_reach 85 = .ok (.getfield 40, 3) := by decide +kernel
theorem dX12_reach_88 : decode cX12_reach 88 = .ok (.aload_n 0, 1) := by decide +kernel
theorem dX12_reach_89 : decode cX12_reach 89 = .ok (.getfield 176, 3) := by decide +kernel
theorem dX12_reach_92 : decode cX12_reach 92 = .ok (.iload_n 3, 1) := by decide +kernel
theorem dX12_reach_93 : decode cX12_reach 93 = .ok (.iastore, 1) := by decide +kernel
theorem dX12_reach_94 : decode cX12_reach 94 = .ok (.aload_n 0, 1) := by decide +kernel
theorem dX12_reach_95 : decode cX12_reach 95 = .ok (.getfield 43, 3) := by decide +kernel
theorem dX12_reach_98 : decode cX12_reach 98 = .ok (.aload_n 0, 1) := by decide +kernel
theorem dX12_reach_99 : decode cX12_reach 99 = .ok (.getfield 176, 3) := by decide +kernel
theorem dX12_reach_102 : decode cX12_reach 102 = .ok (.iload 4, 2) := by decide +kernel
theorem dX12_reach_104 : decode cX12_reach 104 = .ok (.iastore, 1) := by decide +kernel
theorem dX12_reach_105 : decode cX12_reach 105 = .ok (.aload_n 0, 1) := by decide +kernel
theorem dX12_reach_106 : decode cX12_reach 106 = .ok (.dup, 1) := by decide +kernel
theorem dX12_reach_107 : decode cX12_reach 107 = .ok (.getfield 176, 3) := by decide +kernel
theorem dX12_reach_110 : decode cX12_reach 110 = .ok (.iconst 1, 1) := by decide +kernel
theorem dX12_reach_111 : decode cX12_reach 111 = .ok (.iadd, 1) := by decide +kernel
theorem dX12_reach_112 : decode cX12_reach 112 = .ok (.putfield 176, 3) := by decide +kernel
theorem dX12_reach_115 : decode cX12_reach 115 = .ok (.aload_n 0, 1) := by decide +kernel
theorem dX12_reach_116 : decode cX12_reach 116 = .ok (.getfield 176, 3) := by decide +kernel
theorem dX12_reach_119 : decode cX12_reach 119 = .ok (.iconst 1, 1) := by decide +kernel
theorem dX12_reach_120 : decode cX12_reach 120 = .ok (.isub, 1) := by decide +kernel
theorem dX12_reach_121 : decode cX12_reach 121 = .ok (.ireturn, 1) := by decide +kernel
def wX12_reach (l1 : Int32) (l2 : Int32) (l3 : Int32) (l4 : Int32) (μ : km_S) (Q : Int32 → km_S → Prop) : Prop := ∀ μ1, μ1 = km_si μ 1 0 → (((km_i μ1 3) = 10 → Q (-1) μ1) ∧
  (¬ ((km_i μ1 3) = 10) → ((l1 < (-1) → Q (-1) μ1) ∧
    (¬ (l1 < (-1)) → (((km_i μ1 3) ≤ l1 → Q (-1) μ1) ∧
      (¬ ((km_i μ1 3) ≤ l1) → ((l2 < 1 → Q (-1) μ1) ∧
        (¬ (l2 < 1) → ((12 < l2 → Q (-1) μ1) ∧
          (¬ (12 < l2) → ((l3 < 1 → Q (-1) μ1) ∧
            (¬ (l3 < 1) → ((20 < l3 → Q (-1) μ1) ∧
              (¬ (20 < l3) → ((l4 < 0 → Q (-1) μ1) ∧
                (¬ (l4 < 0) → ((l4 ≤ 1000 → vp_in (km_i μ1 3) 10 ∧ ∀ μ12, μ12 = km_sa μ1 13 (km_i μ1 3).toNatClampNeg l1 → vp_in (km_i μ12 3) 10 ∧ ∀ μ14, μ14 = km_sa μ12 14 (km_i μ12 3).toNatClampNeg l2 → vp_in (km_i μ14 3) 10 ∧ ∀ μ16, μ16 = km_sa μ14 15 (km_i μ14 3).toNatClampNeg l3 → vp_in (km_i μ16 3) 10 ∧ ∀ μ18, μ18 = km_sa μ16 16 (km_i μ16 3).toNatClampNeg l4 → ∀ μ19, μ19 = km_si μ18 3 ((km_i μ18 3) + 1) → Q ((km_i μ19 3) - 1) μ19) ∧
                  (¬ (l4 ≤ 1000) → Q (-1) μ1))))))))))))))))))
set_option maxRecDepth 100000 in
set_option maxHeartbeats 4000000 in
theorem hc_X12_reach (l : Launch) (G : km_G) (l1 : Int32) (l2 : Int32) (l3 : Int32) (l4 : Int32) (μ : km_S) (Q : Int32 → km_S → Prop) (h : wX12_reach l1 l2 l3 l4 μ Q) : km_M l G yX12_reach cX12_reach 5 (some .int) (0) (0) [.ref (G.1 0), .int l1, .int l2, .int l3, .int l4] μ (km_Qi G Q) := by
  refine km_enter (by decide) rfl (Nat.le_of_ble_eq_true rfl) ?_
  intro p e s m below meth c ls F hr hlocks C hl
  have hl : lv_has ls 5 [(0, .ref (G.1 0)), (1, .int l1), (2, .int l2), (3, .int l3), (4, .int l4)] := hl
  obtain ⟨H, eH⟩ : ∃ z9, z9 = s.heap := ⟨_, rfl⟩
  obtain ⟨locs, eL⟩ : ∃ z9 : List Loc, z9 = [] := ⟨_, rfl⟩
  rw [← eH, ← eL] at C
  rw [← eH, ← eL]
  refine lv_aload_n F.1 F.2.1 dX12_reach_0 rfl (lv_at hl 0 rfl) ?_
  refine lv_iconst (v := 0) F.1 F.2.1 dX12_reach_1 (by decide) ?_
  refine kp_code F C dX12_reach_2 (fun H locs C => ?_)
  generalize eμ1 : km_si μ 1 0 = μ1 at C
  have h := h μ1 eμ1.symm
  refine lv_aload_n F.1 F.2.1 dX12_reach_5 rfl (lv_at hl 0 rfl) ?_
  refine kg_reaches F C dX12_reach_6 ?_
  refine lv_bipush (v := 10) F.1 F.2.1 dX12_reach_9 (by decide) ?_
  refine lv_icmp_eq (tgt := 62) F.1 F.2.1 dX12_reach_11 (by decide) (fun c2 => ?_) (fun c2 => ?_)
  · have h := h.1 c2
    refine lv_iconst (v := (-1)) F.1 F.2.1 dX12_reach_62 (by decide) ?_
    exact km_iret F C hr hlocks h dX12_reach_63
  · have h := h.2 c2
    refine lv_iload_n F.1 F.2.1 dX12_reach_14 rfl (lv_at hl 1 rfl) ?_
    refine lv_iconst (v := (-1)) F.1 F.2.1 dX12_reach_15 (by decide) ?_
    refine lv_icmp_lt (tgt := 62) F.1 F.2.1 dX12_reach_16 (by decide) (fun c3 => ?_) (fun c3 => ?_)
    · have h := h.1 c3
      refine lv_iconst (v := (-1)) F.1 F.2.1 dX12_reach_62 (by decide) ?_
      exact km_iret F C hr hlocks h dX12_reach_63
    · have h := h.2 c3
      refine lv_iload_n F.1 F.2.1 dX12_reach_19 rfl (lv_at hl 1 rfl) ?_
      refine lv_aload_n F.1 F.2.1 dX12_reach_20 rfl (lv_at hl 0 rfl) ?_
      refine kg_reaches F C dX12_reach_21 ?_
      refine lv_icmp_ge (tgt := 62) F.1 F.2.1 dX12_reach_24 (by decide) (fun c4 => ?_) (fun c4 => ?_)
      · have h := h.1 c4
        refine lv_iconst (v := (-1)) F.1 F.2.1 dX12_reach_62 (by decide) ?_
        exact km_iret F C hr hlocks h dX12_reach_63
      · have h := h.2 c4
        refine lv_iload_n F.1 F.2.1 dX12_reach_27 rfl (lv_at hl 2 rfl) ?_
        refine lv_iconst (v := 1) F.1 F.2.1 dX12_reach_28 (by decide) ?_
        refine lv_icmp_lt (tgt := 62) F.1 F.2.1 dX12_reach_29 (by decide) (fun c5 => ?_) (fun c5 => ?_)
        · have h := h.1 c5
          refine lv_iconst (v := (-1)) F.1 F.2.1 dX12_reach_62 (by decide) ?_
          exact km_iret F C hr hlocks h dX12_reach_63
        · have h := h.2 c5
          refine lv_iload_n F.1 F.2.1 dX12_reach_32 rfl (lv_at hl 2 rfl) ?_
          refine lv_bipush (v := 12) F.1 F.2.1 dX12_reach_33 (by decide) ?_
          refine lv_icmp_gt (tgt := 62) F.1 F.2.1 dX12_reach_35 (by decide) (fun c6 => ?_) (fun c6 => ?_)
          · have h := h.1 c6
            refine lv_iconst (v := (-1)) F.1 F.2.1 dX12_reach_62 (by decide) ?_
            exact km_iret F C hr hlocks h dX12_reach_63
          · have h := h.2 c6
            refine lv_iload_n F.1 F.2.1 dX12_reach_38 rfl (lv_at hl 3 rfl) ?_
            refine lv_iconst (v := 1) F.1 F.2.1 dX12_reach_39 (by decide) ?_
            refine lv_icmp_lt (tgt := 62) F.1 F.2.1 dX12_reach_40 (by decide) (fun c7 => ?_) (fun c7 => ?_)
            · have h := h.1 c7
              refine lv_iconst (v := (-1)) F.1 F.2.1 dX12_reach_62 (by decide) ?_
              exact km_iret F C hr hlocks h dX12_reach_63
            · have h := h.2 c7
              refine lv_iload_n F.1 F.2.1 dX12_reach_43 rfl (lv_at hl 3 rfl) ?_
              refine lv_bipush (v := 20) F.1 F.2.1 dX12_reach_44 (by decide) ?_
              refine lv_icmp_gt (tgt := 62) F.1 F.2.1 dX12_reach_46 (by decide) (fun c8 => ?_) (fun c8 => ?_)
              · have h := h.1 c8
                refine lv_iconst (v := (-1)) F.1 F.2.1 dX12_reach_62 (by decide) ?_
                exact km_iret F C hr hlocks h dX12_reach_63
              · have h := h.2 c8
                refine lv_iload F.1 F.2.1 dX12_reach_49 (lv_at hl 4 rfl) ?_
                refine lv_if_lt (tgt := 62) F.1 F.2.1 dX12_reach_51 (by decide) (fun c9 => ?_) (fun c9 => ?_)
                · have h := h.1 c9
                  refine lv_iconst (v := (-1)) F.1 F.2.1 dX12_reach_62 (by decide) ?_
                  exact km_iret F C hr hlocks h dX12_reach_63
                · have h := h.2 c9
                  refine lv_iload F.1 F.2.1 dX12_reach_54 (lv_at hl 4 rfl) ?_
                  refine lv_sipush (v := 1000) F.1 F.2.1 dX12_reach_56 (by decide) ?_
                  refine lv_icmp_le (tgt := 64) F.1 F.2.1 dX12_reach_59 (by decide) (fun c10 => ?_) (fun c10 => ?_)
                  · have h := h.1 c10
                    refine lv_aload_n F.1 F.2.1 dX12_reach_64 rfl (lv_at hl 0 rfl) ?_
                    refine kg_next F C dX12_reach_65 ?_
                    refine lv_aload_n F.1 F.2.1 dX12_reach_68 rfl (lv_at hl 0 rfl) ?_
                    refine kg_reaches F C dX12_reach_69 ?_
                    refine lv_iload_n F.1 F.2.1 dX12_reach_72 rfl (lv_at hl 1 rfl) ?_
                    obtain ⟨hn11, h⟩ := h
                    refine kq_next F C hn11 dX12_reach_73 (fun H locs C => ?_)
                    generalize eμ12 : km_sa μ1 13 (km_i μ1 3).toNatClampNeg l1 = μ12 at C
                    have h := h μ12 eμ12.symm
                    refine lv_aload_n F.1 F.2.1 dX12_reach_74 rfl (lv_at hl 0 rfl) ?_
                    refine kg_length F C dX12_reach_75 ?_
                    refine lv_aload_n F.1 F.2.1 dX12_reach_78 rfl (lv_at hl 0 rfl) ?_
                    refine kg_reaches F C dX12_reach_79 ?_
                    refine lv_iload_n F.1 F.2.1 dX12_reach_82 rfl (lv_at hl 2 rfl) ?_
                    obtain ⟨hn13, h⟩ := h
                    refine kq_length F C hn13 dX12_reach_83 (fun H locs C => ?_)
                    generalize eμ14 : km_sa μ12 14 (km_i μ12 3).toNatClampNeg l2 = μ14 at C
                    have h := h μ14 eμ14.symm
                    refine lv_aload_n F.1 F.2.1 dX12_reach_84 rfl (lv_at hl 0 rfl) ?_
                    refine kg_carry F C dX12_reach_85 ?_
                    refine lv_aload_n F.1 F.2.1 dX12_reach_88 rfl (lv_at hl 0 rfl) ?_
                    refine kg_reaches F C dX12_reach_89 ?_
                    refine lv_iload_n F.1 F.2.1 dX12_reach_92 rfl (lv_at hl 3 rfl) ?_
                    obtain ⟨hn15, h⟩ := h
                    refine kq_carry F C hn15 dX12_reach_93 (fun H locs C => ?_)
                    generalize eμ16 : km_sa μ14 15 (km_i μ14 3).toNatClampNeg l3 = μ16 at C
                    have h := h μ16 eμ16.symm
                    refine lv_aload_n F.1 F.2.1 dX12_reach_94 rfl (lv_at hl 0 rfl) ?_
                    refine kg_jam F C dX12_reach_95 ?_
                    refine lv_aload_n F.1 F.2.1 dX12_reach_98 rfl (lv_at hl 0 rfl) ?_
                    refine kg_reaches F C dX12_reach_99 ?_
                    refine lv_iload F.1 F.2.1 dX12_reach_102 (lv_at hl 4 rfl) ?_
                    obtain ⟨hn17, h⟩ := h
                    refine kq_jam F C hn17 dX12_reach_104 (fun H locs C => ?_)
                    generalize eμ18 : km_sa μ16 16 (km_i μ16 3).toNatClampNeg l4 = μ18 at C
                    have h := h μ18 eμ18.symm
                    refine lv_aload_n F.1 F.2.1 dX12_reach_105 rfl (lv_at hl 0 rfl) ?_
                    refine lv_dup F.1 F.2.1 dX12_reach_106 rfl ?_
                    refine kg_reaches F C dX12_reach_107 ?_
                    refine lv_iconst (v := 1) F.1 F.2.1 dX12_reach_110 (by decide) ?_
                    refine lv_iadd (x := km_i μ18 3) (y := 1) F.1 F.2.1 dX12_reach_111 ?_
                    refine kp_reaches F C dX12_reach_112 (fun H locs C => ?_)
                    generalize eμ19 : km_si μ18 3 ((km_i μ18 3) + 1) = μ19 at C
                    have h := h μ19 eμ19.symm
                    refine lv_aload_n F.1 F.2.1 dX12_reach_115 rfl (lv_at hl 0 rfl) ?_
                    refine kg_reaches F C dX12_reach_116 ?_
                    refine lv_iconst (v := 1) F.1 F.2.1 dX12_reach_119 (by decide) ?_
                    refine lv_isub (x := km_i μ19 3) (y := 1) F.1 F.2.1 dX12_reach_120 ?_
                    exact km_iret F C hr hlocks h dX12_reach_121
                  · have h := h.2 c10
                    refine lv_iconst (v := (-1)) F.1 F.2.1 dX12_reach_62 (by decide) ?_
                    exact km_iret F C hr hlocks h dX12_reach_63
section
variable {p : Program} {l : Launch} {e : Env} {R : Room} {s : State} {m : MethodId} {args : Array Value} {below : List Frame} {meth : Method} {c : Code} {H : Heap} {locs : List Loc} {Q : State → Prop}
variable {cc : ByteArray} {pc nL : Nat} {ls : Array Slot} {rest : List Value} {G : km_G} {μ : km_S}
end
theorem dX12_dam_0 : decode cX12_dam 0 = .ok (.aload_n 0, 1) := by decide +kernel
theorem dX12_dam_1 : decode cX12_dam 1 = .ok (.iconst 0, 1) := by decide +kernel
theorem dX12_dam_2 : decode cX12_dam 2 = .ok (.putfield 173, 3) := by decide +kernel
theorem dX12_dam_5 : decode cX12_dam 5 = .ok (.aload_n 0, 1) := by decide +kernel
theorem dX12_dam_6 : decode cX12_dam 6 = .ok (.iload_n 1, 1) := by decide +kernel
theorem dX12_dam_7 : decode cX12_dam 7 = .ok (.invokevirtual 179, 3) := by decide +kernel
theorem dX12_dam_10 : decode cX12_dam 10 = .ok (.ifCond .ne 10, 3) := by decide +kernel
theorem dX12_dam_13 : decode cX12_dam 13 = .ok (.aload_n 0, 1) := by decide +kernel
theorem dX12_dam_14 : decode cX12_dam 14 = .ok (.invokevirtual 183, 3) := by decide +kernel
theorem dX12_dam_17 : decode cX12_dam 17 = .ok (.pop, 1) := by decide +kernel
theorem dX12_dam_18 : decode cX12_dam 18 = .ok (.iconst 0, 1) := by decide +kernel
theorem dX12_dam_19 : decode cX12_dam 19 = .ok (.ireturn, 1) := by decide +kernel
theorem dX12_dam_20 : decode cX12_dam 20 = .ok (.iload_n 2, 1) := by decide +kernel
theorem dX12_dam_21 : decode cX12_dam 21 = .ok (.ifCond .lt 9, 3) := by decide +kernel
theorem dX12_dam_24 : decode cX12_dam 24 = .ok (.iload_n 2, 1) := by decide +kernel
theorem dX12_dam_25 : decode cX12_dam 25 = .ok (.ldc 187, 2) := by decide +kernel
theorem dX12_dam_27 : decode cX12_dam 27 = .ok (.if_icmp .le 5, 3) := by decide +kernel
theorem dX12_dam_30 : decode cX12_dam 30 = .ok (.iconst 0, 1) := by decide +kernel
theorem dX12_dam_31 : decode cX12_dam 31 = .ok (.ireturn, 1) := by decide +kernel
theorem dX12_dam_32 : decode cX12_dam 32 = .ok (.aload_n 0, 1) := by decide +kernel
theorem dX12_dam_33 : decode cX12_dam 33 = .ok (.getfield 58, 3) := by decide +kernel
theorem dX12_dam_36 : decode cX12_dam 36 = .ok (.iload_n 1, 1) := by decide +kernel
theorem dX12_dam_37 : decode cX12_dam 37 = .ok (.iconst 1, 1) := by decide +kernel
theorem dX12_dam_38 : decode cX12_dam 38 = .ok (.bastore, 1) := by decide +kernel
theorem dX12_dam_39 : decode cX12_dam 39 = .ok (.aload_n 0, 1) := by decide +kernel
theorem dX12_dam_40 : decode cX12_dam 40 = .ok (.getfield 68, 3) := by decide +kernel
theorem dX12_dam_43 : decode cX12_dam 43 = .ok (.iload_n 1, 1) := by decide +kernel
theorem dX12_dam_44 : decode cX12_dam 44 = .ok (.iload_n 2, 1) := by decide +kernel
theorem dX12_dam_45 : decode cX12_dam 45 = .ok (.iastore, 1) := by decide +kernel
theorem dX12_dam_46 : decode cX12_dam 46 = .ok (.iconst 1, 1) := by decide +kernel
theorem dX12_dam_47 : decode cX12_dam 47 = .ok (.ireturn, 1) := by decide +kernel
def wX12_dam (l1 : Int32) (l2 : Int32) (μ : km_S) (Q : Int32 → km_S → Prop) : Prop := ∀ μ1, μ1 = km_si μ 1 0 → wX12_isReach l1 μ1 fun r3 μ2 => ((¬ r3 = 0 → ((l2 < 0 → Q 0 μ2) ∧
    (¬ (l2 < 0) → ((l2 ≤ 100000 → vp_in l1 10 ∧ ∀ μ8, μ8 = km_sa μ2 21 l1.toNatClampNeg (vp_nar .boolean 1) → vp_in l1 10 ∧ ∀ μ10, μ10 = km_sa μ8 24 l1.toNatClampNeg l2 → Q 1 μ10) ∧
      (¬ (l2 ≤ 100000) → Q 0 μ2))))) ∧
  (r3 = 0 → wX12_fail μ2 fun r12 μ11 => Q 0 μ11))
set_option maxRecDepth 100000 in
set_option maxHeartbeats 4000000 in
theorem hc_X12_dam (l : Launch) (G : km_G) (l1 : Int32) (l2 : Int32) (μ : km_S) (Q : Int32 → km_S → Prop) (h : wX12_dam l1 l2 μ Q) : km_M l G yX12_dam cX12_dam 3 (some .boolean) (1) (21) [.ref (G.1 0), .int l1, .int l2] μ (km_Qi G Q) := by
  refine km_enter (by decide) rfl (Nat.le_of_ble_eq_true rfl) ?_
  intro p e s m below meth c ls F hr hlocks C hl
  have hl : lv_has ls 3 [(0, .ref (G.1 0)), (1, .int l1), (2, .int l2)] := hl
  obtain ⟨H, eH⟩ : ∃ z9, z9 = s.heap := ⟨_, rfl⟩
  obtain ⟨locs, eL⟩ : ∃ z9 : List Loc, z9 = [] := ⟨_, rfl⟩
  rw [← eH, ← eL] at C
  rw [← eH, ← eL]
  refine lv_aload_n F.1 F.2.1 dX12_dam_0 rfl (lv_at hl 0 rfl) ?_
  refine lv_iconst (v := 0) F.1 F.2.1 dX12_dam_1 (by decide) ?_
  refine kp_code F C dX12_dam_2 (fun H locs C => ?_)
  generalize eμ1 : km_si μ 1 0 = μ1 at C
  have h := h μ1 eμ1.symm
  refine lv_aload_n F.1 F.2.1 dX12_dam_5 rfl (lv_at hl 0 rfl) ?_
  refine lv_iload_n F.1 F.2.1 dX12_dam_6 rfl (lv_at hl 1 rfl) ?_
  refine kc_X12_isReach F C h (Nat.le_of_ble_eq_true rfl) (Nat.le_of_ble_eq_true rfl) hl.1 (by simp [Value.category]) dX12_dam_7 (fun r3 μ2 H locs h C => ?_)
  refine lv_if_ne (tgt := 20) F.1 F.2.1 dX12_dam_10 (by decide) (fun c4 => ?_) (fun c4 => ?_)
  · have h := h.1 c4
    refine lv_iload_n F.1 F.2.1 dX12_dam_20 rfl (lv_at hl 2 rfl) ?_
    refine lv_if_lt (tgt := 30) F.1 F.2.1 dX12_dam_21 (by decide) (fun c5 => ?_) (fun c5 => ?_)
    · have h := h.1 c5
      refine lv_iconst (v := 0) F.1 F.2.1 dX12_dam_30 (by decide) ?_
      exact km_zret F C hr hlocks rfl h dX12_dam_31
    · have h := h.2 c5
      refine lv_iload_n F.1 F.2.1 dX12_dam_24 rfl (lv_at hl 2 rfl) ?_
      refine lv_ldc (v := 100000) F.1 F.2.1 F.2.2.2.1 (F.2.2.2.2 _ tw_194) dX12_dam_25 ?_
      refine lv_icmp_le (tgt := 32) F.1 F.2.1 dX12_dam_27 (by decide) (fun c6 => ?_) (fun c6 => ?_)
      · have h := h.1 c6
        refine lv_aload_n F.1 F.2.1 dX12_dam_32 rfl (lv_at hl 0 rfl) ?_
        refine kg_hasDam F C dX12_dam_33 ?_
        refine lv_iload_n F.1 F.2.1 dX12_dam_36 rfl (lv_at hl 1 rfl) ?_
        refine lv_iconst (v := 1) F.1 F.2.1 dX12_dam_37 (by decide) ?_
        obtain ⟨hn7, h⟩ := h
        refine kq_hasDam F C hn7 dX12_dam_38 (fun H locs C => ?_)
        generalize eμ8 : km_sa μ2 21 l1.toNatClampNeg (vp_nar .boolean 1) = μ8 at C
        have h := h μ8 eμ8.symm
        refine lv_aload_n F.1 F.2.1 dX12_dam_39 rfl (lv_at hl 0 rfl) ?_
        refine kg_damRoom F C dX12_dam_40 ?_
        refine lv_iload_n F.1 F.2.1 dX12_dam_43 rfl (lv_at hl 1 rfl) ?_
        refine lv_iload_n F.1 F.2.1 dX12_dam_44 rfl (lv_at hl 2 rfl) ?_
        obtain ⟨hn9, h⟩ := h
        refine kq_damRoom F C hn9 dX12_dam_45 (fun H locs C => ?_)
        generalize eμ10 : km_sa μ8 24 l1.toNatClampNeg l2 = μ10 at C
        have h := h μ10 eμ10.symm
        refine lv_iconst (v := 1) F.1 F.2.1 dX12_dam_46 (by decide) ?_
        exact km_zret F C hr hlocks rfl h dX12_dam_47
      · have h := h.2 c6
        refine lv_iconst (v := 0) F.1 F.2.1 dX12_dam_30 (by decide) ?_
        exact km_zret F C hr hlocks rfl h dX12_dam_31
  · have h := h.2 c4
    refine lv_aload_n F.1 F.2.1 dX12_dam_13 rfl (lv_at hl 0 rfl) ?_
    refine kc_X12_fail F C h (Nat.le_of_ble_eq_true rfl) (Nat.le_of_ble_eq_true rfl) hl.1 (by simp [Value.category]) dX12_dam_14 (fun r12 μ11 H locs h C => ?_)
    refine lv_pop F.1 F.2.1 dX12_dam_17 rfl ?_
    refine lv_iconst (v := 0) F.1 F.2.1 dX12_dam_18 (by decide) ?_
    exact km_zret F C hr hlocks rfl h dX12_dam_19
section
variable {p : Program} {l : Launch} {e : Env} {R : Room} {s : State} {m : MethodId} {args : Array Value} {below : List Frame} {meth : Method} {c : Code} {H : Heap} {locs : List Loc} {Q : State → Prop}
variable {cc : ByteArray} {pc nL : Nat} {ls : Array Slot} {rest : List Value} {G : km_G} {μ : km_S}
end
theorem dX12_gate_0 : decode cX12_gate 0 = .ok (.aload_n 0, 1) := by decide +kernel
theorem dX12_gate_1 : decode cX12_gate 1 = .ok (.iconst 0, 1) := by decide +kernel
theorem dX12_gate_2 : decode cX12_gate 2 = .ok (.putfield 173, 3) := by decide +kernel
theorem dX12_gate_5 : decode cX12_gate 5 = .ok (.aload_n 0, 1) := by decide +kernel
theorem dX12_gate_6 : decode cX12_gate 6 = .ok (.iload_n 1, 1) := by decide +kernel
theorem dX12_gate_7 : decode cX12_gate 7 = .ok (.invokevirtual 179, 3) := by decide +kernel
theorem dX12_gate_10 : decode cX12_gate 10 = .ok (.ifCond .ne 8, 3) := by decide +kernel
theorem dX12_gate_13 : decode cX12_gate 13 = .ok (.aload_n 0, 1) := by decide +kernel
theorem dX12_gate_14 : decode cX12_gate 14 = .ok (.invokevirtual 183, 3) := by decide +kernel
theorem dX12_gate_17 : decode cX12_gate 17 = .ok (.ireturn, 1) := by decide +kernel
theorem dX12_gate_18 : decode cX12_gate 18 = .ok (.aload_n 0, 1) := by decide +kernel
theorem dX12_gate_19 : decode cX12_gate 19 = .ok (.getfield 58, 3) := by decide +kernel
theorem dX12_gate_22 : decode cX12_gate 22 = .ok (.iload_n 1, 1) := by decide +kernel
theorem dX12_gate_23 : decode cX12_gate 23 = .ok (.baload, 1) := by decide +kernel
theorem dX12_gate_24 : decode cX12_gate 24 = .ok (.ifCond .eq 14, 3) := by decide +kernel
theorem dX12_gate_27 : decode cX12_gate 27 = .ok (.iload_n 2, 1) := by decide +kernel
theorem dX12_gate_28 : decode cX12_gate 28 = .ok (.ifCond .lt 10, 3) := by decide +kernel
theorem dX12_gate_31 : decode cX12_gate 31 = .ok (.iload_n 2, 1) := by decide +kernel
theorem dX12_gate_32 : decode cX12_gate 32 = .ok (.sipush 1000, 3) := by decide +kernel
theorem dX12_gate_35 : decode cX12_gate 35 = .ok (.if_icmp .le 5, 3) := by decide +kernel
theorem dX12_gate_38 : decode cX12_gate 38 = .ok (.iconst (-1), 1) := by decide +kernel
theorem dX12_gate_39 : decode cX12_gate 39 = .ok (.ireturn, 1) := by decide +kernel
theorem dX12_gate_40 : decode cX12_gate 40 = .ok (.aload_n 0, 1) := by decide +kernel
theorem dX12_gate_41 : decode cX12_gate 41 = .ok (.getfield 74, 3) := by decide +kernel
theorem dX12_gate_44 : decode cX12_gate 44 = .ok (.iload_n 1, 1) := by decide +kernel
theorem dX12_gate_45 : decode cX12_gate 45 = .ok (.iaload, 1) := by decide +kernel
theorem dX12_gate_46 : decode cX12_gate 46 = .ok (.istore_n 3, 1) := by decide +kernel
theorem dX12_gate_47 : decode cX12_gate 47 = .ok (.aload_n 0, 1) := by decide +kernel
theorem dX12_gate_48 : decode cX12_gate 48 = .ok (.getfield 74, 3) := by decide +kernel
theorem dX12_gate_51 : decode cX12_gate 51 = .ok (.iload_n 1, 1) := by decide +kernel
theorem dX12_gate_52 : decode cX12_gate 52 = .ok (.iload_n 2, 1) := by decide +kernel
theorem dX12_gate_53 : decode cX12_gate 53 = .ok (.iastore, 1) := by decide +kernel
theorem dX12_gate_54 : decode cX12_gate 54 = .ok (.iload_n 3, 1) := by decide +kernel
theorem dX12_gate_55 : decode cX12_gate 55 = .ok (.ireturn, 1) := by decide +kernel
def wX12_gate (l1 : Int32) (l2 : Int32) (μ : km_S) (Q : Int32 → km_S → Prop) : Prop := ∀ μ1, μ1 = km_si μ 1 0 → wX12_isReach l1 μ1 fun r3 μ2 => ((¬ r3 = 0 → vp_in l1 10 ∧ (((km_a μ2 21 l1.toNatClampNeg) = 0 → Q (-1) μ2) ∧
    (¬ ((km_a μ2 21 l1.toNatClampNeg) = 0) → ((l2 < 0 → Q (-1) μ2) ∧
      (¬ (l2 < 0) → ((l2 ≤ 1000 → vp_in l1 10 ∧ ∀ v10, v10 = km_a μ2 26 l1.toNatClampNeg → vp_in l1 10 ∧ ∀ μ12, μ12 = km_sa μ2 26 l1.toNatClampNeg l2 → Q v10 μ12) ∧
        (¬ (l2 ≤ 1000) → Q (-1) μ2))))))) ∧
  (r3 = 0 → wX12_fail μ2 fun r14 μ13 => Q r14 μ13))
set_option maxRecDepth 100000 in
set_option maxHeartbeats 4000000 in
theorem hc_X12_gate (l : Launch) (G : km_G) (l1 : Int32) (l2 : Int32) (μ : km_S) (Q : Int32 → km_S → Prop) (h : wX12_gate l1 l2 μ Q) : km_M l G yX12_gate cX12_gate 4 (some .int) (1) (21) [.ref (G.1 0), .int l1, .int l2] μ (km_Qi G Q) := by
  refine km_enter (by decide) rfl (Nat.le_of_ble_eq_true rfl) ?_
  intro p e s m below meth c ls F hr hlocks C hl
  have hl : lv_has ls 4 [(0, .ref (G.1 0)), (1, .int l1), (2, .int l2)] := hl
  obtain ⟨H, eH⟩ : ∃ z9, z9 = s.heap := ⟨_, rfl⟩
  obtain ⟨locs, eL⟩ : ∃ z9 : List Loc, z9 = [] := ⟨_, rfl⟩
  rw [← eH, ← eL] at C
  rw [← eH, ← eL]
  refine lv_aload_n F.1 F.2.1 dX12_gate_0 rfl (lv_at hl 0 rfl) ?_
  refine lv_iconst (v := 0) F.1 F.2.1 dX12_gate_1 (by decide) ?_
  refine kp_code F C dX12_gate_2 (fun H locs C => ?_)
  generalize eμ1 : km_si μ 1 0 = μ1 at C
  have h := h μ1 eμ1.symm
  refine lv_aload_n F.1 F.2.1 dX12_gate_5 rfl (lv_at hl 0 rfl) ?_
  refine lv_iload_n F.1 F.2.1 dX12_gate_6 rfl (lv_at hl 1 rfl) ?_
  refine kc_X12_isReach F C h (Nat.le_of_ble_eq_true rfl) (Nat.le_of_ble_eq_true rfl) hl.1 (by simp [Value.category]) dX12_gate_7 (fun r3 μ2 H locs h C => ?_)
  refine lv_if_ne (tgt := 18) F.1 F.2.1 dX12_gate_10 (by decide) (fun c4 => ?_) (fun c4 => ?_)
  · have h := h.1 c4
    refine lv_aload_n F.1 F.2.1 dX12_gate_18 rfl (lv_at hl 0 rfl) ?_
    refine kg_hasDam F C dX12_gate_19 ?_
    refine lv_iload_n F.1 F.2.1 dX12_gate_22 rfl (lv_at hl 1 rfl) ?_
    obtain ⟨hn5, h⟩ := h
    refine kl_hasDam F C hn5 dX12_gate_23 ?_
    refine lv_if_eq (tgt := 38) F.1 F.2.1 dX12_gate_24 (by decide) (fun c6 => ?_) (fun c6 => ?_)
    · have h := h.1 c6
      refine lv_iconst (v := (-1)) F.1 F.2.1 dX12_gate_38 (by decide) ?_
      exact km_iret F C hr hlocks h dX12_gate_39
    · have h := h.2 c6
      refine lv_iload_n F.1 F.2.1 dX12_gate_27 rfl (lv_at hl 2 rfl) ?_
      refine lv_if_lt (tgt := 38) F.1 F.2.1 dX12_gate_28 (by decide) (fun c7 => ?_) (fun c7 => ?_)
      · have h := h.1 c7
        refine lv_iconst (v := (-1)) F.1 F.2.1 dX12_gate_38 (by decide) ?_
        exact km_iret F C hr hlocks h dX12_gate_39
      · have h := h.2 c7
        refine lv_iload_n F.1 F.2.1 dX12_gate_31 rfl (lv_at hl 2 rfl) ?_
        refine lv_sipush (v := 1000) F.1 F.2.1 dX12_gate_32 (by decide) ?_
        refine lv_icmp_le (tgt := 40) F.1 F.2.1 dX12_gate_35 (by decide) (fun c8 => ?_) (fun c8 => ?_)
        · have h := h.1 c8
          refine lv_aload_n F.1 F.2.1 dX12_gate_40 rfl (lv_at hl 0 rfl) ?_
          refine kg_gate F C dX12_gate_41 ?_
          refine lv_iload_n F.1 F.2.1 dX12_gate_44 rfl (lv_at hl 1 rfl) ?_
          obtain ⟨hn9, h⟩ := h
          refine kl_gate F C hn9 dX12_gate_45 ?_
          refine lv_topi (fun v10 ev10 => ?_)
          have h := h v10 ev10
          refine lv_istore_n (lv' := [(3, .int v10), (0, .ref (G.1 0)), (1, .int l1), (2, .int l2)]) F.1 F.2.1 dX12_gate_46 rfl hl (by decide) rfl (fun ls hl => ?_)
          refine lv_aload_n F.1 F.2.1 dX12_gate_47 rfl (lv_at hl 1 rfl) ?_
          refine kg_gate F C dX12_gate_48 ?_
          refine lv_iload_n F.1 F.2.1 dX12_gate_51 rfl (lv_at hl 2 rfl) ?_
          refine lv_iload_n F.1 F.2.1 dX12_gate_52 rfl (lv_at hl 3 rfl) ?_
          obtain ⟨hn11, h⟩ := h
          refine kq_gate F C hn11 dX12_gate_53 (fun H locs C => ?_)
          generalize eμ12 : km_sa μ2 26 l1.toNatClampNeg l2 = μ12 at C
          have h := h μ12 eμ12.symm
          refine lv_iload_n F.1 F.2.1 dX12_gate_54 rfl (lv_at hl 0 rfl) ?_
          exact km_iret F C hr hlocks h dX12_gate_55
        · have h := h.2 c8
          refine lv_iconst (v := (-1)) F.1 F.2.1 dX12_gate_38 (by decide) ?_
          exact km_iret F C hr hlocks h dX12_gate_39
  · have h := h.2 c4
    refine lv_aload_n F.1 F.2.1 dX12_gate_13 rfl (lv_at hl 0 rfl) ?_
    refine kc_X12_fail F C h (Nat.le_of_ble_eq_true rfl) (Nat.le_of_ble_eq_true rfl) hl.1 (by simp [Value.category]) dX12_gate_14 (fun r14 μ13 H locs h C => ?_)
    exact km_iret F C hr hlocks h dX12_gate_17
section
variable {p : Program} {l : Launch} {e : Env} {R : Room} {s : State} {m : MethodId} {args : Array Value} {below : List Frame} {meth : Method} {c : Code} {H : Heap} {locs : List Loc} {Q : State → Prop}
variable {cc : ByteArray} {pc nL : Nat} {ls : Array Slot} {rest : List Value} {G : km_G} {μ : km_S}
end
theorem dX12_melt_0 : decode cX12_melt 0 = .ok (.aload_n 0, 1) := by decide +kernel
theorem dX12_melt_1 : decode cX12_melt 1 = .ok (.iconst 0, 1) := by decide +kernel
theorem dX12_melt_2 : decode cX12_melt 2 = .ok (.putfield 173, 3) := by decide +kernel
theorem dX12_melt_5 : decode cX12_melt 5 = .ok (.aload_n 0, 1) := by decide +kernel
theorem dX12_melt_6 : decode cX12_melt 6 = .ok (.iload_n 1, 1) := by decide +kernel
theorem dX12_melt_7 : decode cX12_melt 7 = .ok (.invokevirtual 179, 3) := by decide +kernel
theorem dX12_melt_10 : decode cX12_melt 10 = .ok (.ifCond .ne 8, 3) := by decide +kernel
theorem dX12_melt_13 : decode cX12_melt 13 = .ok (.aload_n 0, 1) := by decide +kernel
theorem dX12_melt_14 : decode cX12_melt 14 = .ok (.invokevirtual 183, 3) := by decide +kernel
theorem dX12_melt_17 : decode cX12_melt 17 = .ok (.ireturn, 1) := by decide +kernel
theorem dX12_melt_18 : decode cX12_melt 18 = .ok (.iload_n 2, 1) := by decide +kernel
theorem dX12_melt_19 : decode cX12_melt 19 = .ok (.ifCond .lt 10, 3) := by decide +kernel
theorem dX12_melt_22 : decode cX12_melt 22 = .ok (.iload_n 2, 1) := by decide +kernel
theorem dX12_melt_23 : decode cX12_melt 23 = .ok (.sipush 500, 3) := by decide +kernel
theorem dX12_melt_26 : decode cX12_melt 26 = .ok (.if_icmp .le 5, 3) := by decide +kernel
theorem dX12_melt_29 : decode cX12_melt 29 = .ok (.iconst (-1), 1) := by decide +kernel
theorem dX12_melt_30 : decode cX12_melt 30 = .ok (.ireturn, 1) := by decide +kernel
theorem dX12_melt_31 : decode cX12_melt 31 = .ok (.aload_n 0, 1) := by decide +kernel
theorem dX12_melt_32 : decode cX12_melt 32 = .ok (.getfield 46, 3) := by decide +kernel
theorem dX12_melt_35 : decode cX12_melt 35 = .ok (.iload_n 1, 1) := by decide +kernel
theorem dX12_melt_36 : decode cX12_melt 36 = .ok (.iaload, 1) := by decide +kernel
theorem dX12_melt_37 : decode cX12_melt 37 = .ok (.istore_n 3, 1) := by decide +kernel
theorem dX12_melt_38 : decode cX12_melt 38 = .ok (.aload_n 0, 1) := by decide +kernel
theorem dX12_melt_39 : decode cX12_melt 39 = .ok (.getfield 46, 3) := by decide +kernel
theorem dX12_melt_42 : decode cX12_melt 42 = .ok (.iload_n 1, 1) := by decide +kernel
theorem dX12_melt_43 : decode cX12_melt 43 = .ok (.iload_n 2, 1) := by decide +kernel
theorem dX12_melt_44 : decode cX12_melt 44 = .ok (.iastore, 1) := by decide +kernel
theorem dX12_melt_45 : decode cX12_melt 45 = .ok (.iload_n 3, 1) := by decide +kernel
theorem dX12_melt_46 : decode cX12_melt 46 = .ok (.ireturn, 1) := by decide +kernel
def wX12_melt (l1 : Int32) (l2 : Int32) (μ : km_S) (Q : Int32 → km_S → Prop) : Prop := ∀ μ1, μ1 = km_si μ 1 0 → wX12_isReach l1 μ1 fun r3 μ2 => ((¬ r3 = 0 → ((l2 < 0 → Q (-1) μ2) ∧
    (¬ (l2 < 0) → ((l2 ≤ 500 → vp_in l1 10 ∧ ∀ v8, v8 = km_a μ2 17 l1.toNatClampNeg → vp_in l1 10 ∧ ∀ μ10, μ10 = km_sa μ2 17 l1.toNatClampNeg l2 → Q v8 μ10) ∧
      (¬ (l2 ≤ 500) → Q (-1) μ2))))) ∧
  (r3 = 0 → wX12_fail μ2 fun r12 μ11 => Q r12 μ11))
set_option maxRecDepth 100000 in
set_option maxHeartbeats 4000000 in
theorem hc_X12_melt (l : Launch) (G : km_G) (l1 : Int32) (l2 : Int32) (μ : km_S) (Q : Int32 → km_S → Prop) (h : wX12_melt l1 l2 μ Q) : km_M l G yX12_melt cX12_melt 4 (some .int) (1) (21) [.ref (G.1 0), .int l1, .int l2] μ (km_Qi G Q) := by
  refine km_enter (by decide) rfl (Nat.le_of_ble_eq_true rfl) ?_
  intro p e s m below meth c ls F hr hlocks C hl
  have hl : lv_has ls 4 [(0, .ref (G.1 0)), (1, .int l1), (2, .int l2)] := hl
  obtain ⟨H, eH⟩ : ∃ z9, z9 = s.heap := ⟨_, rfl⟩
  obtain ⟨locs, eL⟩ : ∃ z9 : List Loc, z9 = [] := ⟨_, rfl⟩
  rw [← eH, ← eL] at C
  rw [← eH, ← eL]
  refine lv_aload_n F.1 F.2.1 dX12_melt_0 rfl (lv_at hl 0 rfl) ?_
  refine lv_iconst (v := 0) F.1 F.2.1 dX12_melt_1 (by decide) ?_
  refine kp_code F C dX12_melt_2 (fun H locs C => ?_)
  generalize eμ1 : km_si μ 1 0 = μ1 at C
  have h := h μ1 eμ1.symm
  refine lv_aload_n F.1 F.2.1 dX12_melt_5 rfl (lv_at hl 0 rfl) ?_
  refine lv_iload_n F.1 F.2.1 dX12_melt_6 rfl (lv_at hl 1 rfl) ?_
  refine kc_X12_isReach F C h (Nat.le_of_ble_eq_true rfl) (Nat.le_of_ble_eq_true rfl) hl.1 (by simp [Value.category]) dX12_melt_7 (fun r3 μ2 H locs h C => ?_)
  refine lv_if_ne (tgt := 18) F.1 F.2.1 dX12_melt_10 (by decide) (fun c4 => ?_) (fun c4 => ?_)
  · have h := h.1 c4
    refine lv_iload_n F.1 F.2.1 dX12_melt_18 rfl (lv_at hl 2 rfl) ?_
    refine lv_if_lt (tgt := 29) F.1 F.2.1 dX12_melt_19 (by decide) (fun c5 => ?_) (fun c5 => ?_)
    · have h := h.1 c5
      refine lv_iconst (v := (-1)) F.1 F.2.1 dX12_melt_29 (by decide) ?_
      exact km_iret F C hr hlocks h dX12_melt_30
    · have h := h.2 c5
      refine lv_iload_n F.1 F.2.1 dX12_melt_22 rfl (lv_at hl 2 rfl) ?_
      refine lv_sipush (v := 500) F.1 F.2.1 dX12_melt_23 (by decide) ?_
      refine lv_icmp_le (tgt := 31) F.1 F.2.1 dX12_melt_26 (by decide) (fun c6 => ?_) (fun c6 => ?_)
      · have h := h.1 c6
        refine lv_aload_n F.1 F.2.1 dX12_melt_31 rfl (lv_at hl 0 rfl) ?_
        refine kg_melt F C dX12_melt_32 ?_
        refine lv_iload_n F.1 F.2.1 dX12_melt_35 rfl (lv_at hl 1 rfl) ?_
        obtain ⟨hn7, h⟩ := h
        refine kl_melt F C hn7 dX12_melt_36 ?_
        refine lv_topi (fun v8 ev8 => ?_)
        have h := h v8 ev8
        refine lv_istore_n (lv' := [(3, .int v8), (0, .ref (G.1 0)), (1, .int l1), (2, .int l2)]) F.1 F.2.1 dX12_melt_37 rfl hl (by decide) rfl (fun ls hl => ?_)
        refine lv_aload_n F.1 F.2.1 dX12_melt_38 rfl (lv_at hl 1 rfl) ?_
        refine kg_melt F C dX12_melt_39 ?_
        refine lv_iload_n F.1 F.2.1 dX12_melt_42 rfl (lv_at hl 2 rfl) ?_
        refine lv_iload_n F.1 F.2.1 dX12_melt_43 rfl (lv_at hl 3 rfl) ?_
        obtain ⟨hn9, h⟩ := h
        refine kq_melt F C hn9 dX12_melt_44 (fun H locs C => ?_)
        generalize eμ10 : km_sa μ2 17 l1.toNatClampNeg l2 = μ10 at C
        have h := h μ10 eμ10.symm
        refine lv_iload_n F.1 F.2.1 dX12_melt_45 rfl (lv_at hl 0 rfl) ?_
        exact km_iret F C hr hlocks h dX12_melt_46
      · have h := h.2 c6
        refine lv_iconst (v := (-1)) F.1 F.2.1 dX12_melt_29 (by decide) ?_
        exact km_iret F C hr hlocks h dX12_melt_30
  · have h := h.2 c4
    refine lv_aload_n F.1 F.2.1 dX12_melt_13 rfl (lv_at hl 0 rfl) ?_
    refine kc_X12_fail F C h (Nat.le_of_ble_eq_true rfl) (Nat.le_of_ble_eq_true rfl) hl.1 (by simp [Value.category]) dX12_melt_14 (fun r12 μ11 H locs h C => ?_)
    exact km_iret F C hr hlocks h dX12_melt_17
section
variable {p : Program} {l : Launch} {e : Env} {R : Room} {s : State} {m : MethodId} {args : Array Value} {below : List Frame} {meth : Method} {c : Code} {H : Heap} {locs : List Loc} {Q : State → Prop}
variable {cc : ByteArray} {pc nL : Nat} {ls : Array Slot} {rest : List Value} {G : km_G} {μ : km_S}
end
theorem dX12_boom_0 : decode cX12_boom 0 = .ok (.aload_n 0, 1) := by decide +kernel
theorem dX12_boom_1 : decode cX12_boom 1 = .ok (.iconst 0, 1) := by decide +kernel
theorem dX12_boom_2 : decode cX12_boom 2 = .ok (.putfield 173, 3) := by decide +kernel
theorem dX12_boom_5 : decode cX12_boom 5 = .ok (.aload_n 0, 1) := by decide +kernel
theorem dX12_boom_6 : decode cX12_boom 6 = .ok (.iload_n 1, 1) := by decide +kernel
theorem dX12_boom_7 : decode cX12_boom 7 = .ok (.invokevirtual 179, 3) := by decide +kernel
theorem dX12_boom_10 : decode cX12_boom 10 = .ok (.ifCond .ne 10, 3) := by decide +kernel
theorem dX12_boom_13 : decode cX12_boom 13 = .ok (.aload_n 0, 1) := by decide +kernel
theorem dX12_boom_14 : decode cX12_boom 14 = .ok (.invokevirtual 183, 3) := by decide +kernel
theorem dX12_boom_17 : decode cX12_boom 17 = .ok (.pop, 1) := by decide +kernel
theorem dX12_boom_18 : decode cX12_boom 18 = .ok (.iconst 0, 1) := by decide +kernel
theorem dX12_boom_19 : decode cX12_boom 19 = .ok (.ireturn, 1) := by decide +kernel
theorem dX12_boom_20 : decode cX12_boom 20 = .ok (.iload_n 3, 1) := by decide +kernel
theorem dX12_boom_21 : decode cX12_boom 21 = .ok (.iconst 1, 1) := by decide +kernel
theorem dX12_boom_22 : decode cX12_boom 22 = .ok (.if_icmp .lt 9, 3) := by decide +kernel
theorem dX12_boom_25 : decode cX12_boom 25 = .ok (.iload_n 3, 1) := by decide +kernel
theorem dX12_boom_26 : decode cX12_boom 26 = .ok (.bipush 100, 2) := by decide +kernel
theorem dX12_boom_28 : decode cX12_boom 28 = .ok (.if_icmp .le 5, 3) := by decide +kernel
theorem dX12_boom_31 : decode cX12_boom 31 = .ok (.iconst 0, 1) := by decide +kernel
theorem dX12_boom_32 : decode cX12_boom 32 = .ok (.ireturn, 1) := by decide +kernel
theorem dX12_boom_33 : decode cX12_boom 33 = .ok (.aload_n 0, 1) := by decide +kernel
theorem dX12_boom_34 : decode cX12_boom 34 = .ok (.getfield 62, 3) := by decide +kernel
theorem dX12_boom_37 : decode cX12_boom 37 = .ok (.iload_n 1, 1) := by decide +kernel
theorem dX12_boom_38 : decode cX12_boom 38 = .ok (.iconst 1, 1) := by decide +kernel
theorem dX12_boom_39 : decode cX12_boom 39 = .ok (.bastore, 1) := by decide +kernel
theorem dX12_boom_40 : decode cX12_boom 40 = .ok (.aload_n 0, 1) := by decide +kernel
theorem dX12_boom_41 : decode cX12_boom 41 = .ok (.getfield 77, 3) := by decide +kernel
theorem dX12_boom_44 : decode cX12_boom 44 = .ok (.iload_n 1, 1) := by decide +kernel
theorem dX12_boom_45 : decode cX12_boom 45 = .ok (.iload_n 2, 1) := by decide +kernel
theorem dX12_boom_46 : decode cX12_boom 46 = .ok (.ldc 188, 2) := by decide +kernel
theorem dX12_boom_48 : decode cX12_boom 48 = .ok (.iand, 1) := by decide +kernel
theorem dX12_boom_49 : decode cX12_boom 49 = .ok (.iastore, 1) := by decide +kernel
theorem dX12_boom_50 : decode cX12_boom 50 = .ok (.aload_n 0, 1) := by decide +kernel
theorem dX12_boom_51 : decode cX12_boom 51 = .ok (.getfield 80, 3) := by decide +kernel
theorem dX12_boom_54 : decode cX12_boom 54 = .ok (.iload_n 1, 1) := by decide +kernel
theorem dX12_boom_55 : decode cX12_boom 55 = .ok (.iload_n 3, 1) := by decide +kernel
theorem dX12_boom_56 : decode cX12_boom 56 = .ok (.iastore, 1) := by decide +kernel
theorem dX12_boom_57 : decode cX12_boom 57 = .ok (.iconst 1, 1) := by decide +kernel
theorem dX12_boom_58 : decode cX12_boom 58 = .ok (.ireturn, 1) := by decide +kernel
def wX12_boom (l1 : Int32) (l2 : Int32) (l3 : Int32) (μ : km_S) (Q : Int32 → km_S → Prop) : Prop := ∀ μ1, μ1 = km_si μ 1 0 → wX12_isReach l1 μ1 fun r3 μ2 => ((¬ r3 = 0 → ((l3 < 1 → Q 0 μ2) ∧
    (¬ (l3 < 1) → ((l3 ≤ 100 → vp_in l1 10 ∧ ∀ μ8, μ8 = km_sa μ2 22 l1.toNatClampNeg (vp_nar .boolean 1) → vp_in l1 10 ∧ ∀ μ10, μ10 = km_sa μ8 27 l1.toNatClampNeg (l2 &&& 65535) → vp_in l1 10 ∧ ∀ μ12, μ12 = km_sa μ10 28 l1.toNatClampNeg l3 → Q 1 μ12) ∧
      (¬ (l3 ≤ 100) → Q 0 μ2))))) ∧
  (r3 = 0 → wX12_fail μ2 fun r14 μ13 => Q 0 μ13))
set_option maxRecDepth 100000 in
set_option maxHeartbeats 4000000 in
theorem hc_X12_boom (l : Launch) (G : km_G) (l1 : Int32) (l2 : Int32) (l3 : Int32) (μ : km_S) (Q : Int32 → km_S → Prop) (h : wX12_boom l1 l2 l3 μ Q) : km_M l G yX12_boom cX12_boom 4 (some .boolean) (1) (21) [.ref (G.1 0), .int l1, .int l2, .int l3] μ (km_Qi G Q) := by
  refine km_enter (by decide) rfl (Nat.le_of_ble_eq_true rfl) ?_
  intro p e s m below meth c ls F hr hlocks C hl
  have hl : lv_has ls 4 [(0, .ref (G.1 0)), (1, .int l1), (2, .int l2), (3, .int l3)] := hl
  obtain ⟨H, eH⟩ : ∃ z9, z9 = s.heap := ⟨_, rfl⟩
  obtain ⟨locs, eL⟩ : ∃ z9 : List Loc, z9 = [] := ⟨_, rfl⟩
  rw [← eH, ← eL] at C
  rw [← eH, ← eL]
  refine lv_aload_n F.1 F.2.1 dX12_boom_0 rfl (lv_at hl 0 rfl) ?_
  refine lv_iconst (v := 0) F.1 F.2.1 dX12_boom_1 (by decide) ?_
  refine kp_code F C dX12_boom_2 (fun H locs C => ?_)
  generalize eμ1 : km_si μ 1 0 = μ1 at C
  have h := h μ1 eμ1.symm
  refine lv_aload_n F.1 F.2.1 dX12_boom_5 rfl (lv_at hl 0 rfl) ?_
  refine lv_iload_n F.1 F.2.1 dX12_boom_6 rfl (lv_at hl 1 rfl) ?_
  refine kc_X12_isReach F C h (Nat.le_of_ble_eq_true rfl) (Nat.le_of_ble_eq_true rfl) hl.1 (by simp [Value.category]) dX12_boom_7 (fun r3 μ2 H locs h C => ?_)
  refine lv_if_ne (tgt := 20) F.1 F.2.1 dX12_boom_10 (by decide) (fun c4 => ?_) (fun c4 => ?_)
  · have h := h.1 c4
    refine lv_iload_n F.1 F.2.1 dX12_boom_20 rfl (lv_at hl 3 rfl) ?_
    refine lv_iconst (v := 1) F.1 F.2.1 dX12_boom_21 (by decide) ?_
    refine lv_icmp_lt (tgt := 31) F.1 F.2.1 dX12_boom_22 (by decide) (fun c5 => ?_) (fun c5 => ?_)
    · have h := h.1 c5
      refine lv_iconst (v := 0) F.1 F.2.1 dX12_boom_31 (by decide) ?_
      exact km_zret F C hr hlocks rfl h dX12_boom_32
    · have h := h.2 c5
      refine lv_iload_n F.1 F.2.1 dX12_boom_25 rfl (lv_at hl 3 rfl) ?_
      refine lv_bipush (v := 100) F.1 F.2.1 dX12_boom_26 (by decide) ?_
      refine lv_icmp_le (tgt := 33) F.1 F.2.1 dX12_boom_28 (by decide) (fun c6 => ?_) (fun c6 => ?_)
      · have h := h.1 c6
        refine lv_aload_n F.1 F.2.1 dX12_boom_33 rfl (lv_at hl 0 rfl) ?_
        refine kg_hasBoom F C dX12_boom_34 ?_
        refine lv_iload_n F.1 F.2.1 dX12_boom_37 rfl (lv_at hl 1 rfl) ?_
        refine lv_iconst (v := 1) F.1 F.2.1 dX12_boom_38 (by decide) ?_
        obtain ⟨hn7, h⟩ := h
        refine kq_hasBoom F C hn7 dX12_boom_39 (fun H locs C => ?_)
        generalize eμ8 : km_sa μ2 22 l1.toNatClampNeg (vp_nar .boolean 1) = μ8 at C
        have h := h μ8 eμ8.symm
        refine lv_aload_n F.1 F.2.1 dX12_boom_40 rfl (lv_at hl 0 rfl) ?_
        refine kg_boomMarks F C dX12_boom_41 ?_
        refine lv_iload_n F.1 F.2.1 dX12_boom_44 rfl (lv_at hl 1 rfl) ?_
        refine lv_iload_n F.1 F.2.1 dX12_boom_45 rfl (lv_at hl 2 rfl) ?_
        refine lv_ldc (v := 65535) F.1 F.2.1 F.2.2.2.1 (F.2.2.2.2 _ tw_195) dX12_boom_46 ?_
        refine lv_iand (x := l2) (y := 65535) F.1 F.2.1 dX12_boom_48 ?_
        obtain ⟨hn9, h⟩ := h
        refine kq_boomMarks F C hn9 dX12_boom_49 (fun H locs C => ?_)
        generalize eμ10 : km_sa μ8 27 l1.toNatClampNeg (l2 &&& 65535) = μ10 at C
        have h := h μ10 eμ10.symm
        refine lv_aload_n F.1 F.2.1 dX12_boom_50 rfl (lv_at hl 0 rfl) ?_
        refine kg_boomRoom F C dX12_boom_51 ?_
        refine lv_iload_n F.1 F.2.1 dX12_boom_54 rfl (lv_at hl 1 rfl) ?_
        refine lv_iload_n F.1 F.2.1 dX12_boom_55 rfl (lv_at hl 3 rfl) ?_
        obtain ⟨hn11, h⟩ := h
        refine kq_boomRoom F C hn11 dX12_boom_56 (fun H locs C => ?_)
        generalize eμ12 : km_sa μ10 28 l1.toNatClampNeg l3 = μ12 at C
        have h := h μ12 eμ12.symm
        refine lv_iconst (v := 1) F.1 F.2.1 dX12_boom_57 (by decide) ?_
        exact km_zret F C hr hlocks rfl h dX12_boom_58
      · have h := h.2 c6
        refine lv_iconst (v := 0) F.1 F.2.1 dX12_boom_31 (by decide) ?_
        exact km_zret F C hr hlocks rfl h dX12_boom_32
  · have h := h.2 c4
    refine lv_aload_n F.1 F.2.1 dX12_boom_13 rfl (lv_at hl 0 rfl) ?_
    refine kc_X12_fail F C h (Nat.le_of_ble_eq_true rfl) (Nat.le_of_ble_eq_true rfl) hl.1 (by simp [Value.category]) dX12_boom_14 (fun r14 μ13 H locs h C => ?_)
    refine lv_pop F.1 F.2.1 dX12_boom_17 rfl ?_
    refine lv_iconst (v := 0) F.1 F.2.1 dX12_boom_18 (by decide) ?_
    exact km_zret F C hr hlocks rfl h dX12_boom_19
section
variable {p : Program} {l : Launch} {e : Env} {R : Room} {s : State} {m : MethodId} {args : Array Value} {below : List Frame} {meth : Method} {c : Code} {H : Heap} {locs : List Loc} {Q : State → Prop}
variable {cc : ByteArray} {pc nL : Nat} {ls : Array Slot} {rest : List Value} {G : km_G} {μ : km_S}
end
theorem dX12_watch_0 : decode cX12_watch 0 = .ok (.aload_n 0, 1) := by decide +kernel
theorem dX12_watch_1 : decode cX12_watch 1 = .ok (.iconst 0, 1) := by decide +kernel
theorem dX12_watch_2 : decode cX12_watch 2 = .ok (.putfield 173, 3) := by decide +kernel
theorem dX12_watch_5 : decode cX12_watch 5 = .ok (.aload_n 0, 1) := by decide +kernel
theorem dX12_watch_6 : decode cX12_watch 6 = .ok (.iload_n 1, 1) := by decide +kernel
theorem dX12_watch_7 : decode cX12_watch 7 = .ok (.invokevirtual 179, 3) := by decide +kernel
theorem dX12_watch_10 : decode cX12_watch 10 = .ok (.ifCond .ne 10, 3) := by decide +kernel
theorem dX12_watch_13 : decode cX12_watch 13 = .ok (.aload_n 0, 1) := by decide +kernel
theorem dX12_watch_14 : decode cX12_watch 14 = .ok (.invokevirtual 183, 3) := by decide +kernel
theorem dX12_watch_17 : decode cX12_watch 17 = .ok (.pop, 1) := by decide +kernel
theorem dX12_watch_18 : decode cX12_watch 18 = .ok (.iconst 0, 1) := by decide +kernel
theorem dX12_watch_19 : decode cX12_watch 19 = .ok (.ireturn, 1) := by decide +kernel
theorem dX12_watch_20 : decode cX12_watch 20 = .ok (.aload_n 0, 1) := by decide +kernel
theorem dX12_watch_21 : decode cX12_watch 21 = .ok (.getfield 65, 3) := by decide +kernel
theorem dX12_watch_24 : decode cX12_watch 24 = .ok (.iload_n 1, 1) := by decide +kernel
theorem dX12_watch_25 : decode cX12_watch 25 = .ok (.baload, 1) := by decide +kernel
theorem dX12_watch_26 : decode cX12_watch 26 = .ok (.istore_n 3, 1) := by decide +kernel
theorem dX12_watch_27 : decode cX12_watch 27 = .ok (.aload_n 0, 1) := by decide +kernel
theorem dX12_watch_28 : decode cX12_watch 28 = .ok (.getfield 65, 3) := by decide +kernel
theorem dX12_watch_31 : decode cX12_watch 31 = .ok (.iload_n 1, 1) := by decide +kernel
theorem dX12_watch_32 : decode cX12_watch 32 = .ok (.iload_n 2, 1) := by decide +kernel
theorem dX12_watch_33 : decode cX12_watch 33 = .ok (.bastore, 1) := by decide +kernel
theorem dX12_watch_34 : decode cX12_watch 34 = .ok (.iload_n 3, 1) := by decide +kernel
theorem dX12_watch_35 : decode cX12_watch 35 = .ok (.ireturn, 1) := by decide +kernel
def wX12_watch (l1 : Int32) (l2 : Int32) (μ : km_S) (Q : Int32 → km_S → Prop) : Prop := ∀ μ1, μ1 = km_si μ 1 0 → wX12_isReach l1 μ1 fun r3 μ2 => ((¬ r3 = 0 → vp_in l1 10 ∧ ∀ v6, v6 = km_a μ2 23 l1.toNatClampNeg → vp_in l1 10 ∧ ∀ μ8, μ8 = km_sa μ2 23 l1.toNatClampNeg (vp_nar .boolean l2) → narrow .boolean (.int v6) = .int v6 ∧ Q v6 μ8) ∧
  (r3 = 0 → wX12_fail μ2 fun r10 μ9 => Q 0 μ9))
set_option maxRecDepth 100000 in
set_option maxHeartbeats 4000000 in
theorem hc_X12_watch (l : Launch) (G : km_G) (l1 : Int32) (l2 : Int32) (μ : km_S) (Q : Int32 → km_S → Prop) (h : wX12_watch l1 l2 μ Q) : km_M l G yX12_watch cX12_watch 4 (some .boolean) (1) (21) [.ref (G.1 0), .int l1, .int l2] μ (km_Qi G Q) := by
  refine km_enter (by decide) rfl (Nat.le_of_ble_eq_true rfl) ?_
  intro p e s m below meth c ls F hr hlocks C hl
  have hl : lv_has ls 4 [(0, .ref (G.1 0)), (1, .int l1), (2, .int l2)] := hl
  obtain ⟨H, eH⟩ : ∃ z9, z9 = s.heap := ⟨_, rfl⟩
  obtain ⟨locs, eL⟩ : ∃ z9 : List Loc, z9 = [] := ⟨_, rfl⟩
  rw [← eH, ← eL] at C
  rw [← eH, ← eL]
  refine lv_aload_n F.1 F.2.1 dX12_watch_0 rfl (lv_at hl 0 rfl) ?_
  refine lv_iconst (v := 0) F.1 F.2.1 dX12_watch_1 (by decide) ?_
  refine kp_code F C dX12_watch_2 (fun H locs C => ?_)
  generalize eμ1 : km_si μ 1 0 = μ1 at C
  have h := h μ1 eμ1.symm
  refine lv_aload_n F.1 F.2.1 dX12_watch_5 rfl (lv_at hl 0 rfl) ?_
  refine lv_iload_n F.1 F.2.1 dX12_watch_6 rfl (lv_at hl 1 rfl) ?_
  refine kc_X12_isReach F C h (Nat.le_of_ble_eq_true rfl) (Nat.le_of_ble_eq_true rfl) hl.1 (by simp [Value.category]) dX12_watch_7 (fun r3 μ2 H locs h C => ?_)
  refine lv_if_ne (tgt := 20) F.1 F.2.1 dX12_watch_10 (by decide) (fun c4 => ?_) (fun c4 => ?_)
  · have h := h.1 c4
    refine lv_aload_n F.1 F.2.1 dX12_watch_20 rfl (lv_at hl 0 rfl) ?_
    refine kg_isWatched F C dX12_watch_21 ?_
    refine lv_iload_n F.1 F.2.1 dX12_watch_24 rfl (lv_at hl 1 rfl) ?_
    obtain ⟨hn5, h⟩ := h
    refine kl_isWatched F C hn5 dX12_watch_25 ?_
    refine lv_topi (fun v6 ev6 => ?_)
    have h := h v6 ev6
    refine lv_istore_n (lv' := [(3, .int v6), (0, .ref (G.1 0)), (1, .int l1), (2, .int l2)]) F.1 F.2.1 dX12_watch_26 rfl hl (by decide) rfl (fun ls hl => ?_)
    refine lv_aload_n F.1 F.2.1 dX12_watch_27 rfl (lv_at hl 1 rfl) ?_
    refine kg_isWatched F C dX12_watch_28 ?_
    refine lv_iload_n F.1 F.2.1 dX12_watch_31 rfl (lv_at hl 2 rfl) ?_
    refine lv_iload_n F.1 F.2.1 dX12_watch_32 rfl (lv_at hl 3 rfl) ?_
    obtain ⟨hn7, h⟩ := h
    refine kq_isWatched F C hn7 dX12_watch_33 (fun H locs C => ?_)
    generalize eμ8 : km_sa μ2 23 l1.toNatClampNeg (vp_nar .boolean l2) = μ8 at C
    have h := h μ8 eμ8.symm
    refine lv_iload_n F.1 F.2.1 dX12_watch_34 rfl (lv_at hl 0 rfl) ?_
    exact km_zret F C hr hlocks h.1 h.2 dX12_watch_35
  · have h := h.2 c4
    refine lv_aload_n F.1 F.2.1 dX12_watch_13 rfl (lv_at hl 0 rfl) ?_
    refine kc_X12_fail F C h (Nat.le_of_ble_eq_true rfl) (Nat.le_of_ble_eq_true rfl) hl.1 (by simp [Value.category]) dX12_watch_14 (fun r10 μ9 H locs h C => ?_)
    refine lv_pop F.1 F.2.1 dX12_watch_17 rfl ?_
    refine lv_iconst (v := 0) F.1 F.2.1 dX12_watch_18 (by decide) ?_
    exact km_zret F C hr hlocks rfl h dX12_watch_19
section
variable {p : Program} {l : Launch} {e : Env} {R : Room} {s : State} {m : MethodId} {args : Array Value} {below : List Frame} {meth : Method} {c : Code} {H : Heap} {locs : List Loc} {Q : State → Prop}
variable {cc : ByteArray} {pc nL : Nat} {ls : Array Slot} {rest : List Value} {G : km_G} {μ : km_S}
end
theorem dX12_crew_0 : decode cX12_crew 0 = .ok (.aload_n 0, 1) := by decide +kernel
theorem dX12_crew_1 : decode cX12_crew 1 = .ok (.iconst 0, 1) := by decide +kernel
theorem dX12_crew_2 : decode cX12_crew 2 = .ok (.putfield 173, 3) := by decide +kernel
theorem dX12_crew_5 : decode cX12_crew 5 = .ok (.aload_n 0, 1) := by decide +kernel
theorem dX12_crew_6 : decode cX12_crew 6 = .ok (.iload_n 2, 1) := by decide +kernel
theorem dX12_crew_7 : decode cX12_crew 7 = .ok (.invokevirtual 179, 3) := by decide +kernel
theorem dX12_crew_10 : decode cX12_crew 10 = .ok (.ifCond .ne 8, 3) := by decide +kernel
theorem dX12_crew_13 : decode cX12_crew 13 = .ok (.aload_n 0, 1) := by decide +kernel
theorem dX12_crew_14 : decode cX12_crew 14 = .ok (.invokevirtual 183, 3) := by decide +kernel
theorem dX12_crew_17 : decode cX12_crew 17 = .ok (.ireturn, 1) := by decide +kernel
theorem dX12_crew_18 : decode cX12_crew 18 = .ok (.iload_n 1, 1) := by decide +kernel
theorem dX12_crew_19 : decode cX12_crew 19 = .ok (.iconst (-1), 1) := by decide +kernel
theorem dX12_crew_20 : decode cX12_crew 20 = .ok (.if_icmp .lt 25, 3) := by decide +kernel
theorem dX12_crew_23 : decode cX12_crew 23 = .ok (.iload_n 1, 1) := by decide +kernel
theorem dX12_crew_24 : decode cX12_crew 24 = .ok (.aload_n 0, 1) := by decide +kernel
theorem dX12_crew_25 : decode cX12_crew 25 = .ok (.getfield 189, 3) := by decide +kernel
theorem dX12_crew_28 : decode cX12_crew 28 = .ok (.if_icmp .ge 17, 3) := by decide +kernel
theorem dX12_crew_31 : decode cX12_crew 31 = .ok (.iload_n 1, 1) := by decide +kernel
theorem dX12_crew_32 : decode cX12_crew 32 = .ok (.iconst (-1), 1) := by decide +kernel
theorem dX12_crew_33 : decode cX12_crew 33 = .ok (.if_icmp .ne 14, 3) := by decide +kernel
theorem dX12_crew_36 : decode cX12_crew 36 = .ok (.aload_n 0, 1) := by decide +kernel
theorem dX12_crew_37 : decode cX12_crew 37 = .ok (.getfield 189, 3) := by decide +kernel
theorem dX12_crew_40 : decode cX12_crew 40 = .ok (.bipush 6, 2) := by decide +kernel
theorem dX12_crew_42 : decode cX12_crew 42 = .ok (.if_icmp .ne 5, 3) := by decide +kernel
theorem dX12_crew_45 : decode cX12_crew 45 = .ok (.iconst (-1), 1) := by decide +kernel
theorem dX12_crew_46 : decode cX12_crew 46 = .ok (.ireturn, 1) := by decide +kernel
theorem dX12_crew_47 : decode cX12_crew 47 = .ok (.iload_n 1, 1) := by decide +kernel
theorem dX12_crew_48 : decode cX12_crew 48 = .ok (.istore_n 3, 1) := by decide +kernel
theorem dX12_crew_49 : decode cX12_crew 49 = .ok (.iload_n 1, 1) := by decide +kernel
theorem dX12_crew_50 : decode cX12_crew 50 = .ok (.iconst (-1), 1) := by decide +kernel
theorem dX12_crew_51 : decode cX12_crew 51 = .ok (.if_icmp .ne 33, 3) := by decide +kernel
theorem dX12_crew_54 : decode cX12_crew 54 = .ok (.aload_n 0, 1) := by decide +kernel
theorem dX12_crew_55 : decode cX12_crew 55 = .ok (.getfield 189, 3) := by decide +kernel
theorem dX12_crew_58 : decode cX12_crew 58 = .ok (.istore_n 3, 1) := by decide +kernel
theorem dX12_crew_59 : decode cX12_crew 59 = .ok (.aload_n 0, 1) := by decide +kernel
theorem dX12_crew_60 : decode cX12_crew 60 = .ok (.dup, 1) := by decide +kernel
theorem dX12_crew_61 : decode cX12_crew 61 = .ok (.getfield 189, 3) := by decide +kernel
theorem dX12_crew_64 : decode cX12_crew 64 = .ok (.iconst 1, 1) := by decide +kernel
theorem dX12_crew_65 : decode cX12_crew 65 = .ok (.iadd, 1) := by decide +kernel
theorem dX12_crew_66 : decode cX12_crew 66 = .ok (.putfield 189, 3) := by decide +kernel
theorem dX12_crew_69 : decode cX12_crew 69 = .ok (.aload_n 0, 1) := by decide +kernel
theorem dX12_crew_70 : decode cX12_crew 70 = .ok (.getfield 124, 3) := by decide +kernel
theorem dX12_crew_73 : decode cX12_crew 73 = .ok (.iload_n 3, 1) := by decide +kernel
theorem dX12_crew_74 : decode cX12_crew 74 = .ok (.iconst (-1), 1) := by decide +kernel
theorem dX12_crew_75 : decode cX12_crew 75 = .ok (.iastore, 1) := by decide +kernel
theorem dX12_crew_76 : decode cX12_crew 76 = .ok (.aload_n 0, 1) := by decide +kernel
theorem dX12_crew_77 : decode cX12_crew 77 = .ok (.getfield 130, 3) := by decide +kernel
theorem dX12_crew_80 : decode cX12_crew 80 = .ok (.iload_n 3, 1) := by decide +kernel
theorem dX12_crew_81 : decode cX12_crew 81 = .ok (.bipush (-5), 2) := by decide +kernel
theorem dX12_crew_83 : decode cX12_crew 83 = .ok (.iastore, 1) := by decide +kernel
theorem dX12_crew_84 : decode cX12_crew 84 = .ok (.aload_n 0, 1) := by decide +kernel
theorem dX12_crew_85 : decode cX12_crew 85 = .ok (.getfield 124, 3) := by decide +kernel
theorem dX12_crew_88 : decode cX12_crew 88 = .ok (.iload_n 3, 1) := by decide +kernel
theorem dX12_crew_89 : decode cX12_crew 89 = .ok (.iaload, 1) := by decide +kernel
theorem dX12_crew_90 : decode cX12_crew 90 = .ok (.iload_n 2, 1) := by decide +kernel
theorem dX12_crew_91 : decode cX12_crew 91 = .ok (.if_icmp .eq 13, 3) := by decide +kernel
theorem dX12_crew_94 : decode cX12_crew 94 = .ok (.aload_n 0, 1) := by decide +kernel
theorem dX12_crew_95 : decode cX12_crew 95 = .ok (.getfield 127, 3) := by decide +kernel
theorem dX12_crew_98 : decode cX12_crew 98 = .ok (.iload_n 3, 1) := by decide +kernel
theorem dX12_crew_99 : decode cX12_crew 99 = .ok (.aload_n 0, 1) := by decide +kernel
theorem dX12_crew_100 : decode cX12_crew 100 = .ok (.getfield 192, 3) := by decide +kernel
theorem dX12_crew_103 : decode cX12_crew 103 = .ok (.iastore, 1) := by decide +kernel
theorem dX12_crew_104 : decode cX12_crew 104 = .ok (.aload_n 0, 1) := by decide +kernel
theorem dX12_crew_105 : decode cX12_crew 105 = .ok (.getfield 124, 3) := by decide +kernel
theorem dX12_crew_108 : decode cX12_crew 108 = .ok (.iload_n 3, 1) := by decide +kernel
theorem dX12_crew_109 : decode cX12_crew 109 = .ok (.iload_n 2, 1) := by decide +kernel
theorem dX12_crew_110 : decode cX12_crew 110 = .ok (.iastore, 1) := by decide +kernel
theorem dX12_crew_111 : decode cX12_crew 111 = .ok (.iload_n 3, 1) := by decide +kernel
theorem dX12_crew_112 : decode cX12_crew 112 = .ok (.ireturn, 1) := by decide +kernel
def wX12_crew_104 (Q : Int32 → km_S → Prop) (l2 : Int32) (l3 : Int32) (μ : km_S) : Prop := vp_in l3 6 ∧ ∀ μ2, μ2 = km_sa μ 44 l3.toNatClampNeg l2 → Q l3 μ2
def wX12_crew_84 (Q : Int32 → km_S → Prop) (l2 : Int32) (l3 : Int32) (μ : km_S) : Prop := vp_in l3 6 ∧ (((km_a μ 44 l3.toNatClampNeg) = l2 → wX12_crew_104 Q l2 l3 μ) ∧
  (¬ ((km_a μ 44 l3.toNatClampNeg) = l2) → vp_in l3 6 ∧ ∀ μ6, μ6 = km_sa μ 45 l3.toNatClampNeg (km_i μ 2) → wX12_crew_104 Q l2 l3 μ6))
def wX12_crew_47 (Q : Int32 → km_S → Prop) (l1 : Int32) (l2 : Int32) (μ : km_S) : Prop := ((¬ l1 = (-1) → wX12_crew_84 Q l2 l1 μ) ∧
  (l1 = (-1) → ∀ v8, v8 = km_i μ 7 → ∀ μ9, μ9 = km_si μ 7 ((km_i μ 7) + 1) → vp_in v8 6 ∧ ∀ μ11, μ11 = km_sa μ9 44 v8.toNatClampNeg (-1) → vp_in v8 6 ∧ ∀ μ13, μ13 = km_sa μ11 46 v8.toNatClampNeg (-5) → wX12_crew_84 Q l2 v8 μ13))
def wX12_crew (l1 : Int32) (l2 : Int32) (μ : km_S) (Q : Int32 → km_S → Prop) : Prop := ∀ μ14, μ14 = km_si μ 1 0 → wX12_isReach l2 μ14 fun r16 μ15 => ((¬ r16 = 0 → ((l1 < (-1) → Q (-1) μ15) ∧
    (¬ (l1 < (-1)) → (((km_i μ15 7) ≤ l1 → Q (-1) μ15) ∧
      (¬ ((km_i μ15 7) ≤ l1) → ((¬ l1 = (-1) → wX12_crew_47 Q l1 l2 μ15) ∧
        (l1 = (-1) → ((¬ (km_i μ15 7) = 6 → wX12_crew_47 Q l1 l2 μ15) ∧
          ((km_i μ15 7) = 6 → Q (-1) μ15))))))))) ∧
  (r16 = 0 → wX12_fail μ15 fun r23 μ22 => Q r23 μ22))
set_option maxRecDepth 100000 in
set_option maxHeartbeats 4000000 in
theorem tX12_crew_104 (l : Launch) (G : km_G) {p : Program} {e : Env} {s : State} {m : MethodId} {args : Array Value} {below : List Frame} {meth : Method} {c : Code} (F : CallFix p m c cX12_crew 4 s args kt_ RX12) (hr : meth.sig.returnType = (some .int)) (hlocks : meth.locks = false) (Q : Int32 → km_S → Prop) : ∀ (l2 : Int32) (l3 : Int32) (μ : km_S) (H : Heap) (locs : List Loc) (ls : Array Slot), wX12_crew_104 Q l2 l3 μ → km_X G s H locs μ → lv_has ls 4 [(0, .ref (G.1 0)), (2, .int l2), (3, .int l3)] → W p l e { frames := 1, cells := 0, slots := 0, locals := 21 } s m args below meth c H locs 0 0 (MQ below (km_Qi G Q) args s 0 0 (km_A G)) (F0 m 104 ls []) := by
  intro l2 l3 μ H locs ls h C hl
  refine lv_aload_n F.1 F.2.1 dX12_crew_104 rfl (lv_at hl 0 rfl) ?_
  refine kg_crewReach F C dX12_crew_105 ?_
  refine lv_iload_n F.1 F.2.1 dX12_crew_108 rfl (lv_at hl 2 rfl) ?_
  refine lv_iload_n F.1 F.2.1 dX12_crew_109 rfl (lv_at hl 1 rfl) ?_
  obtain ⟨hn1, h⟩ := h
  refine kq_crewReach F C hn1 dX12_crew_110 (fun H locs C => ?_)
  generalize eμ2 : km_sa μ 44 l3.toNatClampNeg l2 = μ2 at C
  have h := h μ2 eμ2.symm
  refine lv_iload_n F.1 F.2.1 dX12_crew_111 rfl (lv_at hl 2 rfl) ?_
  exact km_iret F C hr hlocks h dX12_crew_112
set_option maxRecDepth 100000 in
set_option maxHeartbeats 4000000 in
theorem tX12_crew_84 (l : Launch) (G : km_G) {p : Program} {e : Env} {s : State} {m : MethodId} {args : Array Value} {below : List Frame} {meth : Method} {c : Code} (F : CallFix p m c cX12_crew 4 s args kt_ RX12) (hr : meth.sig.returnType = (some .int)) (hlocks : meth.locks = false) (Q : Int32 → km_S → Prop) : ∀ (l2 : Int32) (l3 : Int32) (μ : km_S) (H : Heap) (locs : List Loc) (ls : Array Slot), wX12_crew_84 Q l2 l3 μ → km_X G s H locs μ → lv_has ls 4 [(0, .ref (G.1 0)), (2, .int l2), (3, .int l3)] → W p l e { frames := 1, cells := 0, slots := 0, locals := 21 } s m args below meth c H locs 0 0 (MQ below (km_Qi G Q) args s 0 0 (km_A G)) (F0 m 84 ls []) := by
  intro l2 l3 μ H locs ls h C hl
  refine lv_aload_n F.1 F.2.1 dX12_crew_84 rfl (lv_at hl 0 rfl) ?_
  refine kg_crewReach F C dX12_crew_85 ?_
  refine lv_iload_n F.1 F.2.1 dX12_crew_88 rfl (lv_at hl 2 rfl) ?_
  obtain ⟨hn3, h⟩ := h
  refine kl_crewReach F C hn3 dX12_crew_89 ?_
  refine lv_iload_n F.1 F.2.1 dX12_crew_90 rfl (lv_at hl 1 rfl) ?_
  refine lv_icmp_eq (tgt := 104) F.1 F.2.1 dX12_crew_91 (by decide) (fun c4 => ?_) (fun c4 => ?_)
  · have h := h.1 c4
    exact tX12_crew_104 l G F hr hlocks Q l2 l3 μ H locs ls h C (lv_sub hl [0, 1, 2] rfl)
  · have h := h.2 c4
    refine lv_aload_n F.1 F.2.1 dX12_crew_94 rfl (lv_at hl 0 rfl) ?_
    refine kg_crewCame F C dX12_crew_95 ?_
    refine lv_iload_n F.1 F.2.1 dX12_crew_98 rfl (lv_at hl 2 rfl) ?_
    refine lv_aload_n F.1 F.2.1 dX12_crew_99 rfl (lv_at hl 0 rfl) ?_
    refine kg_now F C dX12_crew_100 ?_
    obtain ⟨hn5, h⟩ := h
    refine kq_crewCame F C hn5 dX12_crew_103 (fun H locs C => ?_)
    generalize eμ6 : km_sa μ 45 l3.toNatClampNeg (km_i μ 2) = μ6 at C
    have h := h μ6 eμ6.symm
    exact tX12_crew_104 l G F hr hlocks Q l2 l3 μ6 H locs ls h C (lv_sub hl [0, 1, 2] rfl)
set_option maxRecDepth 100000 in
set_option maxHeartbeats 4000000 in
theorem tX12_crew_47 (l : Launch) (G : km_G) {p : Program} {e : Env} {s : State} {m : MethodId} {args : Array Value} {below : List Frame} {meth : Method} {c : Code} (F : CallFix p m c cX12_crew 4 s args kt_ RX12) (hr : meth.sig.returnType = (some .int)) (hlocks : meth.locks = false) (Q : Int32 → km_S → Prop) : ∀ (l1 : Int32) (l2 : Int32) (μ : km_S) (H : Heap) (locs : List Loc) (ls : Array Slot), wX12_crew_47 Q l1 l2 μ → km_X G s H locs μ → lv_has ls 4 [(0, .ref (G.1 0)), (1, .int l1), (2, .int l2)] → W p l e { frames := 1, cells := 0, slots := 0, locals := 21 } s m args below meth c H locs 0 0 (MQ below (km_Qi G Q) args s 0 0 (km_A G)) (F0 m 47 ls []) := by
  intro l1 l2 μ H locs ls h C hl
  refine lv_iload_n F.1 F.2.1 dX12_crew_47 rfl (lv_at hl 1 rfl) ?_
  refine lv_istore_n (lv' := [(3, .int l1), (0, .ref (G.1 0)), (1, .int l1), (2, .int l2)]) F.1 F.2.1 dX12_crew_48 rfl hl (by decide) rfl (fun ls hl => ?_)
  refine lv_iload_n F.1 F.2.1 dX12_crew_49 rfl (lv_at hl 2 rfl) ?_
  refine lv_iconst (v := (-1)) F.1 F.2.1 dX12_crew_50 (by decide) ?_
  refine lv_icmp_ne (tgt := 84) F.1 F.2.1 dX12_crew_51 (by decide) (fun c7 => ?_) (fun c7 => ?_)
  · have h := h.1 c7
    exact tX12_crew_84 l G F hr hlocks Q l2 l1 μ H locs ls h C (lv_sub hl [1, 3, 0] rfl)
  · have h := h.2 c7
    refine lv_aload_n F.1 F.2.1 dX12_crew_54 rfl (lv_at hl 1 rfl) ?_
    refine kg_crews F C dX12_crew_55 ?_
    refine lv_topi (fun v8 ev8 => ?_)
    have h := h v8 ev8
    refine lv_istore_n (lv' := [(3, .int v8), (0, .ref (G.1 0)), (1, .int l1), (2, .int l2)]) F.1 F.2.1 dX12_crew_58 rfl hl (by decide) rfl (fun ls hl => ?_)
    refine lv_aload_n F.1 F.2.1 dX12_crew_59 rfl (lv_at hl 1 rfl) ?_
    refine lv_dup F.1 F.2.1 dX12_crew_60 rfl ?_
    refine kg_crews F C dX12_crew_61 ?_
    refine lv_iconst (v := 1) F.1 F.2.1 dX12_crew_64 (by decide) ?_
    refine lv_iadd (x := km_i μ 7) (y := 1) F.1 F.2.1 dX12_crew_65 ?_
    refine kp_crews F C dX12_crew_66 (fun H locs C => ?_)
    generalize eμ9 : km_si μ 7 ((km_i μ 7) + 1) = μ9 at C
    have h := h μ9 eμ9.symm
    refine lv_aload_n F.1 F.2.1 dX12_crew_69 rfl (lv_at hl 1 rfl) ?_
    refine kg_crewReach F C dX12_crew_70 ?_
    refine lv_iload_n F.1 F.2.1 dX12_crew_73 rfl (lv_at hl 0 rfl) ?_
    refine lv_iconst (v := (-1)) F.1 F.2.1 dX12_crew_74 (by decide) ?_
    obtain ⟨hn10, h⟩ := h
    refine kq_crewReach F C hn10 dX12_crew_75 (fun H locs C => ?_)
    generalize eμ11 : km_sa μ9 44 v8.toNatClampNeg (-1) = μ11 at C
    have h := h μ11 eμ11.symm
    refine lv_aload_n F.1 F.2.1 dX12_crew_76 rfl (lv_at hl 1 rfl) ?_
    refine kg_crewFreed F C dX12_crew_77 ?_
    refine lv_iload_n F.1 F.2.1 dX12_crew_80 rfl (lv_at hl 0 rfl) ?_
    refine lv_bipush (v := (-5)) F.1 F.2.1 dX12_crew_81 (by decide) ?_
    obtain ⟨hn12, h⟩ := h
    refine kq_crewFreed F C hn12 dX12_crew_83 (fun H locs C => ?_)
    generalize eμ13 : km_sa μ11 46 v8.toNatClampNeg (-5) = μ13 at C
    have h := h μ13 eμ13.symm
    exact tX12_crew_84 l G F hr hlocks Q l2 v8 μ13 H locs ls h C (lv_sub hl [1, 3, 0] rfl)
set_option maxRecDepth 100000 in
set_option maxHeartbeats 4000000 in
theorem hc_X12_crew (l : Launch) (G : km_G) (l1 : Int32) (l2 : Int32) (μ : km_S) (Q : Int32 → km_S → Prop) (h : wX12_crew l1 l2 μ Q) : km_M l G yX12_crew cX12_crew 4 (some .int) (1) (21) [.ref (G.1 0), .int l1, .int l2] μ (km_Qi G Q) := by
  refine km_enter (by decide) rfl (Nat.le_of_ble_eq_true rfl) ?_
  intro p e s m below meth c ls F hr hlocks C hl
  have hl : lv_has ls 4 [(0, .ref (G.1 0)), (1, .int l1), (2, .int l2)] := hl
  obtain ⟨H, eH⟩ : ∃ z9, z9 = s.heap := ⟨_, rfl⟩
  obtain ⟨locs, eL⟩ : ∃ z9 : List Loc, z9 = [] := ⟨_, rfl⟩
  rw [← eH, ← eL] at C
  rw [← eH, ← eL]
  refine lv_aload_n F.1 F.2.1 dX12_crew_0 rfl (lv_at hl 0 rfl) ?_
  refine lv_iconst (v := 0) F.1 F.2.1 dX12_crew_1 (by decide) ?_
  refine kp_code F C dX12_crew_2 (fun H locs C => ?_)
  generalize eμ14 : km_si μ 1 0 = μ14 at C
  have h := h μ14 eμ14.symm
  refine lv_aload_n F.1 F.2.1 dX12_crew_5 rfl (lv_at hl 0 rfl) ?_
  refine lv_iload_n F.1 F.2.1 dX12_crew_6 rfl (lv_at hl 2 rfl) ?_
  refine kc_X12_isReach F C h (Nat.le_of_ble_eq_true rfl) (Nat.le_of_ble_eq_true rfl) hl.1 (by simp [Value.category]) dX12_crew_7 (fun r16 μ15 H locs h C => ?_)
  refine lv_if_ne (tgt := 18) F.1 F.2.1 dX12_crew_10 (by decide) (fun c17 => ?_) (fun c17 => ?_)
  · have h := h.1 c17
    refine lv_iload_n F.1 F.2.1 dX12_crew_18 rfl (lv_at hl 1 rfl) ?_
    refine lv_iconst (v := (-1)) F.1 F.2.1 dX12_crew_19 (by decide) ?_
    refine lv_icmp_lt (tgt := 45) F.1 F.2.1 dX12_crew_20 (by decide) (fun c18 => ?_) (fun c18 => ?_)
    · have h := h.1 c18
      refine lv_iconst (v := (-1)) F.1 F.2.1 dX12_crew_45 (by decide) ?_
      exact km_iret F C hr hlocks h dX12_crew_46
    · have h := h.2 c18
      refine lv_iload_n F.1 F.2.1 dX12_crew_23 rfl (lv_at hl 1 rfl) ?_
      refine lv_aload_n F.1 F.2.1 dX12_crew_24 rfl (lv_at hl 0 rfl) ?_
      refine kg_crews F C dX12_crew_25 ?_
      refine lv_icmp_ge (tgt := 45) F.1 F.2.1 dX12_crew_28 (by decide) (fun c19 => ?_) (fun c19 => ?_)
      · have h := h.1 c19
        refine lv_iconst (v := (-1)) F.1 F.2.1 dX12_crew_45 (by decide) ?_
        exact km_iret F C hr hlocks h dX12_crew_46
      · have h := h.2 c19
        refine lv_iload_n F.1 F.2.1 dX12_crew_31 rfl (lv_at hl 1 rfl) ?_
        refine lv_iconst (v := (-1)) F.1 F.2.1 dX12_crew_32 (by decide) ?_
        refine lv_icmp_ne (tgt := 47) F.1 F.2.1 dX12_crew_33 (by decide) (fun c20 => ?_) (fun c20 => ?_)
        · have h := h.1 c20
          exact tX12_crew_47 l G F hr hlocks Q l1 l2 μ15 H locs ls h C (lv_sub hl [0, 1, 2] rfl)
        · have h := h.2 c20
          refine lv_aload_n F.1 F.2.1 dX12_crew_36 rfl (lv_at hl 0 rfl) ?_
          refine kg_crews F C dX12_crew_37 ?_
          refine lv_bipush (v := 6) F.1 F.2.1 dX12_crew_40 (by decide) ?_
          refine lv_icmp_ne (tgt := 47) F.1 F.2.1 dX12_crew_42 (by decide) (fun c21 => ?_) (fun c21 => ?_)
          · have h := h.1 c21
            exact tX12_crew_47 l G F hr hlocks Q l1 l2 μ15 H locs ls h C (lv_sub hl [0, 1, 2] rfl)
          · have h := h.2 c21
            refine lv_iconst (v := (-1)) F.1 F.2.1 dX12_crew_45 (by decide) ?_
            exact km_iret F C hr hlocks h dX12_crew_46
  · have h := h.2 c17
    refine lv_aload_n F.1 F.2.1 dX12_crew_13 rfl (lv_at hl 0 rfl) ?_
    refine kc_X12_fail F C h (Nat.le_of_ble_eq_true rfl) (Nat.le_of_ble_eq_true rfl) hl.1 (by simp [Value.category]) dX12_crew_14 (fun r23 μ22 H locs h C => ?_)
    exact km_iret F C hr hlocks h dX12_crew_17
section
variable {p : Program} {l : Launch} {e : Env} {R : Room} {s : State} {m : MethodId} {args : Array Value} {below : List Frame} {meth : Method} {c : Code} {H : Heap} {locs : List Loc} {Q : State → Prop}
variable {cc : ByteArray} {pc nL : Nat} {ls : Array Slot} {rest : List Value} {G : km_G} {μ : km_S}
end
theorem dX12_feed_0 : decode cX12_feed 0 = .ok (.aload_n 0, 1) := by decide +kernel
theorem dX12_feed_1 : decode cX12_feed 1 = .ok (.iconst 0, 1) := by decide +kernel
theorem dX12_feed_2 : decode cX12_feed 2 = .ok (.putfield 173, 3) := by decide +kernel
theorem dX12_feed_5 : decode cX12_feed 5 = .ok (.aload_n 0, 1) := by decide +kernel
theorem dX12_feed_6 : decode cX12_feed 6 = .ok (.getfield 195, 3) := by decide +kernel
theorem dX12_feed_9 : decode cX12_feed 9 = .ok (.bipush 20, 2) := by decide +kernel
theorem dX12_feed_11 : decode cX12_feed 11 = .ok (.iadd, 1) := by decide +kernel
theorem dX12_feed_12 : decode cX12_feed 12 = .ok (.sipush 500, 3) := by decide +kernel
theorem dX12_feed_15 : decode cX12_feed 15 = .ok (.if_icmp .le 5, 3) := by decide +kernel
theorem dX12_feed_18 : decode cX12_feed 18 = .ok (.iconst (-1), 1) := by decide +kernel
theorem dX12_feed_19 : decode cX12_feed 19 = .ok (.ireturn, 1) := by decide +kernel
theorem dX12_feed_20 : decode cX12_feed 20 = .ok (.iconst 0, 1) := by decide +kernel
theorem dX12_feed_21 : decode cX12_feed 21 = .ok (.istore 6, 2) := by decide +kernel
theorem dX12_feed_23 : decode cX12_feed 23 = .ok (.iload 6, 2) := by decide +kernel
theorem dX12_feed_25 : decode cX12_feed 25 = .ok (.bipush 20, 2) := by decide +kernel
theorem dX12_feed_27 : decode cX12_feed 27 = .ok (.if_icmp .ge 93, 3) := by decide +kernel
theorem dX12_feed_30 : decode cX12_feed 30 = .ok (.iload 6, 2) := by decide +kernel
theorem dX12_feed_32 : decode cX12_feed 32 = .ok (.iconst 4, 1) := by decide +kernel
theorem dX12_feed_33 : decode cX12_feed 33 = .ok (.if_icmp .ge 7, 3) := by decide +kernel
theorem dX12_feed_36 : decode cX12_feed 36 = .ok (.iload_n 1, 1) := by decide +kernel
theorem dX12_feed_37 : decode cX12_feed 37 = .ok (.goto 39, 3) := by decide +kernel
theorem dX12_feed_40 : decode cX12_feed 40 = .ok (.iload 6, 2) := by decide +kernel
theorem dX12_feed_42 : decode cX12_feed 42 = .ok (.bipush 8, 2) := by decide +kernel
theorem dX12_feed_44 : decode cX12_feed 44 = .ok (.if_icmp .ge 7, 3) := by decide +kernel
theorem dX12_feed_47 : decode cX12_feed 47 = .ok (.iload_n 2, 1) := by decide +kernel
theorem dX12_feed_48 : decode cX12_feed 48 = .ok (.goto 28, 3) := by decide +kernel
theorem dX12_feed_51 : decode cX12_feed 51 = .ok (.iload 6, 2) := by decide +kernel
theorem dX12_feed_53 : decode cX12_feed 53 = .ok (.bipush 12, 2) := by decide +kernel
theorem dX12_feed_55 : decode cX12_feed 55 = .ok (.if_icmp .ge 7, 3) := by decide +kernel
theorem dX12_feed_58 : decode cX12_feed 58 = .ok (.iload_n 3, 1) := by decide +kernel
theorem dX12_feed_59 : decode cX12_feed 59 = .ok (.goto 17, 3) := by decide +kernel
theorem dX12_feed_62 : decode cX12_feed 62 = .ok (.iload 6, 2) := by decide +kernel
theorem dX12_feed_64 : decode cX12_feed 64 = .ok (.bipush 16, 2) := by decide +kernel
theorem dX12_feed_66 : decode cX12_feed 66 = .ok (.if_icmp .ge 8, 3) := by decide +kernel
theorem dX12_feed_69 : decode cX12_feed 69 = .ok (.iload 4, 2) := by decide +kernel
theorem dX12_feed_71 : decode cX12_feed 71 = .ok (.goto 5, 3) := by decide +kernel
theorem dX12_feed_74 : decode cX12_feed 74 = .ok (.iload 5, 2) := by decide +kernel
theorem dX12_feed_76 : decode cX12_feed 76 = .ok (.istore 7, 2) := by decide +kernel
theorem dX12_feed_78 : decode cX12_feed 78 = .ok (.aload_n 0, 1) := by decide +kernel
theorem dX12_feed_79 : decode cX12_feed 79 = .ok (.getfield 149, 3) := by decide +kernel
theorem dX12_feed_82 : decode cX12_feed 82 = .ok (.aload_n 0, 1) := by decide +kernel
theorem dX12_feed_83 : decode cX12_feed 83 = .ok (.getfield 195, 3) := by decide +kernel
theorem dX12_feed_86 : decode cX12_feed 86 = .ok (.iload 7, 2) := by decide +kernel
theorem dX12_feed_88 : decode cX12_feed 88 = .ok (.bipush 24, 2) := by decide +kernel
theorem dX12_feed_90 : decode cX12_feed 90 = .ok (.bipush 8, 2) := by decide +kernel
theorem dX12_feed_92 : decode cX12_feed 92 = .ok (.iload 6, 2) := by decide +kernel
theorem dX12_feed_94 : decode cX12_feed 94 = .ok (.iconst 4, 1) := by decide +kernel
theorem dX12_feed_95 : decode cX12_feed 95 = .ok (.irem, 1) := by decide +kernel
theorem dX12_feed_96 : decode cX12_feed 96 = .ok (.imul, 1) := by decide +kernel
theorem dX12_feed_97 : decode cX12_feed 97 = .ok (.isub, 1) := by decide +kernel
theorem dX12_feed_98 : decode cX12_feed 98 = .ok (.ishr, 1) := by decide +kernel
theorem dX12_feed_99 : decode cX12_feed 99 = .ok (.sipush 255, 3) := by decide +kernel
theorem dX12_feed_102 : decode cX12_feed 102 = .ok (.iand, 1) := by decide +kernel
theorem dX12_feed_103 : decode cX12_feed 103 = .ok (.iastore, 1) := by decide +kernel
theorem dX12_feed_104 : decode cX12_feed 104 = .ok (.aload_n 0, 1) := by decide +kernel
theorem dX12_feed_105 : decode cX12_feed 105 = .ok (.dup, 1) := by decide +kernel
theorem dX12_feed_106 : decode cX12_feed 106 = .ok (.getfield 195, 3) := by decide +kernel
theorem dX12_feed_109 : decode cX12_feed 109 = .ok (.iconst 1, 1) := by decide +kernel
theorem dX12_feed_110 : decode cX12_feed 110 = .ok (.iadd, 1) := by decide +kernel
theorem dX12_feed_111 : decode cX12_feed 111 = .ok (.putfield 195, 3) := by decide +kernel
theorem dX12_feed_114 : decode cX12_feed 114 = .ok (.iinc 6 1, 3) := by decide +kernel
theorem dX12_feed_117 : decode cX12_feed 117 = .ok (.goto (-94), 3) := by decide +kernel
theorem dX12_feed_120 : decode cX12_feed 120 = .ok (.aload_n 0, 1) := by decide +kernel
theorem dX12_feed_121 : decode cX12_feed 121 = .ok (.getfield 195, 3) := by decide +kernel
theorem dX12_feed_124 : decode cX12_feed 124 = .ok (.ireturn, 1) := by decide +kernel
def wX12_feed_120 (Q : Int32 → km_S → Prop) (μ : km_S) : Prop := Q (km_i μ 9) μ
def wX12_feed_76 (k23 : Int32 → Int32 → Int32 → Int32 → Int32 → Int32 → km_S → Prop) (Q : Int32 → km_S → Prop) (l1 : Int32) (l2 : Int32) (l3 : Int32) (l4 : Int32) (l5 : Int32) (l6 : Int32) (s0 : Int32) (μ : km_S) : Prop := vp_in (km_i μ 9) 500 ∧ ∀ μ2, μ2 = km_sa μ 52 (km_i μ 9).toNatClampNeg ((s0 >>> ((24 - (8 * (l6 - l6 / 4 * 4))) &&& 31)) &&& 255) → ∀ μ3, μ3 = km_si μ2 9 ((km_i μ2 9) + 1) → ∀ v4 : Int32, v4 = l6 + 1 → k23 l1 l2 l3 l4 l5 v4 μ3
def wX12_feed_23 (k120 : km_S → Prop) (Q : Int32 → km_S → Prop) : Nat → Int32 → Int32 → Int32 → Int32 → Int32 → Int32 → km_S → Prop
  | 0, _, _, _, _, _, _, _ => False
  | n + 1, l1, l2, l3, l4, l5, l6, μ => ((20 ≤ l6 → k120 μ) ∧
    (¬ (20 ≤ l6) → ((4 ≤ l6 → ((8 ≤ l6 → ((12 ≤ l6 → ((16 ≤ l6 → wX12_feed_76 (wX12_feed_23 k120 Q n) Q l1 l2 l3 l4 l5 l6 l5 μ) ∧
            (¬ (16 ≤ l6) → wX12_feed_76 (wX12_feed_23 k120 Q n) Q l1 l2 l3 l4 l5 l6 l4 μ))) ∧
          (¬ (12 ≤ l6) → wX12_feed_76 (wX12_feed_23 k120 Q n) Q l1 l2 l3 l4 l5 l6 l3 μ))) ∧
        (¬ (8 ≤ l6) → wX12_feed_76 (wX12_feed_23 k120 Q n) Q l1 l2 l3 l4 l5 l6 l2 μ))) ∧
      (¬ (4 ≤ l6) → wX12_feed_76 (wX12_feed_23 k120 Q n) Q l1 l2 l3 l4 l5 l6 l1 μ))))
def wX12_feed (l1 : Int32) (l2 : Int32) (l3 : Int32) (l4 : Int32) (l5 : Int32) (μ : km_S) (Q : Int32 → km_S → Prop) : Prop := ∀ μ10, μ10 = km_si μ 1 0 → ((((km_i μ10 9) + 20) ≤ 500 → ∃ j, wX12_feed_23 (wX12_feed_120 Q) Q j l1 l2 l3 l4 l5 0 μ10) ∧
  (¬ (((km_i μ10 9) + 20) ≤ 500) → Q (-1) μ10))
set_option maxRecDepth 100000 in
set_option maxHeartbeats 4000000 in
theorem tX12_feed_120 (l : Launch) (G : km_G) {p : Program} {e : Env} {s : State} {m : MethodId} {args : Array Value} {below : List Frame} {meth : Method} {c : Code} (F : CallFix p m c cX12_feed 8 s args kt_ RX12) (hr : meth.sig.returnType = (some .int)) (hlocks : meth.locks = false) (Q : Int32 → km_S → Prop) : ∀ (μ : km_S) (H : Heap) (locs : List Loc) (ls : Array Slot), wX12_feed_120 Q μ → km_X G s H locs μ → lv_has ls 8 [(0, .ref (G.1 0))] → W p l e { frames := 0, cells := 0, slots := 0, locals := 0 } s m args below meth c H locs 0 0 (MQ below (km_Qi G Q) args s 0 0 (km_A G)) (F0 m 120 ls []) := by
  intro  μ H locs ls h C hl
  refine lv_aload_n F.1 F.2.1 dX12_feed_120 rfl (lv_at hl 0 rfl) ?_
  refine kg_taped F C dX12_feed_121 ?_
  exact km_iret F C hr hlocks h dX12_feed_124
set_option maxRecDepth 100000 in
set_option maxHeartbeats 4000000 in
theorem tX12_feed_76 (l : Launch) (G : km_G) {p : Program} {e : Env} {s : State} {m : MethodId} {args : Array Value} {below : List Frame} {meth : Method} {c : Code} (F : CallFix p m c cX12_feed 8 s args kt_ RX12) (hr : meth.sig.returnType = (some .int)) (hlocks : meth.locks = false) (Q : Int32 → km_S → Prop) (k23 : Int32 → Int32 → Int32 → Int32 → Int32 → Int32 → km_S → Prop) (hk23 : ∀ (l1 : Int32) (l2 : Int32) (l3 : Int32) (l4 : Int32) (l5 : Int32) (l6 : Int32) (μ : km_S) (H : Heap) (locs : List Loc) (ls : Array Slot), k23 l1 l2 l3 l4 l5 l6 μ → km_X G s H locs μ → lv_has ls 8 [(0, .ref (G.1 0)), (1, .int l1), (2, .int l2), (3, .int l3), (4, .int l4), (5, .int l5), (6, .int l6)] → W p l e { frames := 0, cells := 0, slots := 0, locals := 0 } s m args below meth c H locs 0 0 (MQ below (km_Qi G Q) args s 0 0 (km_A G)) (F0 m 23 ls [])) : ∀ (l1 : Int32) (l2 : Int32) (l3 : Int32) (l4 : Int32) (l5 : Int32) (l6 : Int32) (s0 : Int32) (μ : km_S) (H : Heap) (locs : List Loc) (ls : Array Slot), wX12_feed_76 k23 Q l1 l2 l3 l4 l5 l6 s0 μ → km_X G s H locs μ → lv_has ls 8 [(0, .ref (G.1 0)), (1, .int l1), (2, .int l2), (3, .int l3), (4, .int l4), (5, .int l5), (6, .int l6)] → W p l e { frames := 0, cells := 0, slots := 0, locals := 0 } s m args below meth c H locs 0 0 (MQ below (km_Qi G Q) args s 0 0 (km_A G)) (F0 m 76 ls [.int s0]) := by
  intro l1 l2 l3 l4 l5 l6 s0 μ H locs ls h C hl
  refine lv_istore (lv' := [(7, .int s0), (0, .ref (G.1 0)), (1, .int l1), (2, .int l2), (3, .int l3), (4, .int l4), (5, .int l5), (6, .int l6)]) F.1 F.2.1 dX12_feed_76 hl (by decide) rfl (fun ls hl => ?_)
  refine lv_aload_n F.1 F.2.1 dX12_feed_78 rfl (lv_at hl 1 rfl) ?_
  refine kg_tape F C dX12_feed_79 ?_
  refine lv_aload_n F.1 F.2.1 dX12_feed_82 rfl (lv_at hl 1 rfl) ?_
  refine kg_taped F C dX12_feed_83 ?_
  refine lv_iload F.1 F.2.1 dX12_feed_86 (lv_at hl 0 rfl) ?_
  refine lv_bipush (v := 24) F.1 F.2.1 dX12_feed_88 (by decide) ?_
  refine lv_bipush (v := 8) F.1 F.2.1 dX12_feed_90 (by decide) ?_
  refine lv_iload F.1 F.2.1 dX12_feed_92 (lv_at hl 7 rfl) ?_
  refine lv_iconst (v := 4) F.1 F.2.1 dX12_feed_94 (by decide) ?_
  refine lv_irem (x := l6) (y := 4) F.1 F.2.1 dX12_feed_95 (by decide) ?_
  refine lv_imul (x := 8) (y := l6 - l6 / 4 * 4) F.1 F.2.1 dX12_feed_96 ?_
  refine lv_isub (x := 24) (y := 8 * (l6 - l6 / 4 * 4)) F.1 F.2.1 dX12_feed_97 ?_
  refine lv_ishr (x := s0) (y := 24 - (8 * (l6 - l6 / 4 * 4))) F.1 F.2.1 dX12_feed_98 ?_
  refine lv_sipush (v := 255) F.1 F.2.1 dX12_feed_99 (by decide) ?_
  refine lv_iand (x := s0 >>> ((24 - (8 * (l6 - l6 / 4 * 4))) &&& 31)) (y := 255) F.1 F.2.1 dX12_feed_102 ?_
  obtain ⟨hn1, h⟩ := h
  refine kq_tape F C hn1 dX12_feed_103 (fun H locs C => ?_)
  generalize eμ2 : km_sa μ 52 (km_i μ 9).toNatClampNeg ((s0 >>> ((24 - (8 * (l6 - l6 / 4 * 4))) &&& 31)) &&& 255) = μ2 at C
  have h := h μ2 eμ2.symm
  refine lv_aload_n F.1 F.2.1 dX12_feed_104 rfl (lv_at hl 1 rfl) ?_
  refine lv_dup F.1 F.2.1 dX12_feed_105 rfl ?_
  refine kg_taped F C dX12_feed_106 ?_
  refine lv_iconst (v := 1) F.1 F.2.1 dX12_feed_109 (by decide) ?_
  refine lv_iadd (x := km_i μ2 9) (y := 1) F.1 F.2.1 dX12_feed_110 ?_
  refine kp_taped F C dX12_feed_111 (fun H locs C => ?_)
  generalize eμ3 : km_si μ2 9 ((km_i μ2 9) + 1) = μ3 at C
  have h := h μ3 eμ3.symm
  obtain ⟨v4, ev4⟩ : ∃ z9 : Int32, z9 = l6 + 1 := ⟨_, rfl⟩
  have h := h v4 ev4
  refine lv_iinc (v := v4) (lv' := [(6, .int v4), (7, .int s0), (0, .ref (G.1 0)), (1, .int l1), (2, .int l2), (3, .int l3), (4, .int l4), (5, .int l5)]) F.1 F.2.1 dX12_feed_114 hl (k := 7) rfl (by rw [ev4]; rfl) (by decide) rfl (fun ls hl => ?_)
  refine lv_goto (tgt := 23) F.1 F.2.1 dX12_feed_117 (by decide) ?_
  exact hk23 l1 l2 l3 l4 l5 v4 μ3 H locs ls h C (lv_sub hl [2, 3, 4, 5, 6, 7, 0] rfl)
set_option maxRecDepth 100000 in
set_option maxHeartbeats 4000000 in
theorem tX12_feed_23 (l : Launch) (G : km_G) {p : Program} {e : Env} {s : State} {m : MethodId} {args : Array Value} {below : List Frame} {meth : Method} {c : Code} (F : CallFix p m c cX12_feed 8 s args kt_ RX12) (hr : meth.sig.returnType = (some .int)) (hlocks : meth.locks = false) (Q : Int32 → km_S → Prop) (k120 : km_S → Prop) (hk120 : ∀  (μ : km_S) (H : Heap) (locs : List Loc) (ls : Array Slot), k120  μ → km_X G s H locs μ → lv_has ls 8 [(0, .ref (G.1 0))] → W p l e { frames := 0, cells := 0, slots := 0, locals := 0 } s m args below meth c H locs 0 0 (MQ below (km_Qi G Q) args s 0 0 (km_A G)) (F0 m 120 ls [])) : ∀ (n : Nat) (l1 : Int32) (l2 : Int32) (l3 : Int32) (l4 : Int32) (l5 : Int32) (l6 : Int32) (μ : km_S) (H : Heap) (locs : List Loc) (ls : Array Slot), wX12_feed_23 k120 Q n l1 l2 l3 l4 l5 l6 μ → km_X G s H locs μ → lv_has ls 8 [(0, .ref (G.1 0)), (1, .int l1), (2, .int l2), (3, .int l3), (4, .int l4), (5, .int l5), (6, .int l6)] → W p l e { frames := 0, cells := 0, slots := 0, locals := 0 } s m args below meth c H locs 0 0 (MQ below (km_Qi G Q) args s 0 0 (km_A G)) (F0 m 23 ls []) := by
  intro n
  induction n with
  | zero => intro l1 l2 l3 l4 l5 l6 μ H locs ls h; exact h.elim
  | succ n ih =>
    intro l1 l2 l3 l4 l5 l6 μ H locs ls h C hl
    refine lv_iload F.1 F.2.1 dX12_feed_23 (lv_at hl 6 rfl) ?_
    refine lv_bipush (v := 20) F.1 F.2.1 dX12_feed_25 (by decide) ?_
    refine lv_icmp_ge (tgt := 120) F.1 F.2.1 dX12_feed_27 (by decide) (fun c5 => ?_) (fun c5 => ?_)
    · have h := h.1 c5
      exact hk120 μ H locs ls h C (lv_sub hl [0] rfl)
    · have h := h.2 c5
      refine lv_iload F.1 F.2.1 dX12_feed_30 (lv_at hl 6 rfl) ?_
      refine lv_iconst (v := 4) F.1 F.2.1 dX12_feed_32 (by decide) ?_
      refine lv_icmp_ge (tgt := 40) F.1 F.2.1 dX12_feed_33 (by decide) (fun c6 => ?_) (fun c6 => ?_)
      · have h := h.1 c6
        refine lv_iload F.1 F.2.1 dX12_feed_40 (lv_at hl 6 rfl) ?_
        refine lv_bipush (v := 8) F.1 F.2.1 dX12_feed_42 (by decide) ?_
        refine lv_icmp_ge (tgt := 51) F.1 F.2.1 dX12_feed_44 (by decide) (fun c7 => ?_) (fun c7 => ?_)
        · have h := h.1 c7
          refine lv_iload F.1 F.2.1 dX12_feed_51 (lv_at hl 6 rfl) ?_
          refine lv_bipush (v := 12) F.1 F.2.1 dX12_feed_53 (by decide) ?_
          refine lv_icmp_ge (tgt := 62) F.1 F.2.1 dX12_feed_55 (by decide) (fun c8 => ?_) (fun c8 => ?_)
          · have h := h.1 c8
            refine lv_iload F.1 F.2.1 dX12_feed_62 (lv_at hl 6 rfl) ?_
            refine lv_bipush (v := 16) F.1 F.2.1 dX12_feed_64 (by decide) ?_
            refine lv_icmp_ge (tgt := 74) F.1 F.2.1 dX12_feed_66 (by decide) (fun c9 => ?_) (fun c9 => ?_)
            · have h := h.1 c9
              refine lv_iload F.1 F.2.1 dX12_feed_74 (lv_at hl 5 rfl) ?_
              exact tX12_feed_76 l G F hr hlocks Q (wX12_feed_23 k120 Q n) (fun l1 l2 l3 l4 l5 l6 μ9 H locs ls h C hl => ih l1 l2 l3 l4 l5 l6 μ9 H locs ls h C hl) l1 l2 l3 l4 l5 l6 l5 μ H locs ls h C (lv_sub hl [0, 1, 2, 3, 4, 5, 6] rfl)
            · have h := h.2 c9
              refine lv_iload F.1 F.2.1 dX12_feed_69 (lv_at hl 4 rfl) ?_
              refine lv_goto (tgt := 76) F.1 F.2.1 dX12_feed_71 (by decide) ?_
              exact tX12_feed_76 l G F hr hlocks Q (wX12_feed_23 k120 Q n) (fun l1 l2 l3 l4 l5 l6 μ9 H locs ls h C hl => ih l1 l2 l3 l4 l5 l6 μ9 H locs ls h C hl) l1 l2 l3 l4 l5 l6 l4 μ H locs ls h C (lv_sub hl [0, 1, 2, 3, 4, 5, 6] rfl)
          · have h := h.2 c8
            refine lv_iload_n F.1 F.2.1 dX12_feed_58 rfl (lv_at hl 3 rfl) ?_
            refine lv_goto (tgt := 76) F.1 F.2.1 dX12_feed_59 (by decide) ?_
            exact tX12_feed_76 l G F hr hlocks Q (wX12_feed_23 k120 Q n) (fun l1 l2 l3 l4 l5 l6 μ9 H locs ls h C hl => ih l1 l2 l3 l4 l5 l6 μ9 H locs ls h C hl) l1 l2 l3 l4 l5 l6 l3 μ H locs ls h C (lv_sub hl [0, 1, 2, 3, 4, 5, 6] rfl)
        · have h := h.2 c7
          refine lv_iload_n F.1 F.2.1 dX12_feed_47 rfl (lv_at hl 2 rfl) ?_
          refine lv_goto (tgt := 76) F.1 F.2.1 dX12_feed_48 (by decide) ?_
          exact tX12_feed_76 l G F hr hlocks Q (wX12_feed_23 k120 Q n) (fun l1 l2 l3 l4 l5 l6 μ9 H locs ls h C hl => ih l1 l2 l3 l4 l5 l6 μ9 H locs ls h C hl) l1 l2 l3 l4 l5 l6 l2 μ H locs ls h C (lv_sub hl [0, 1, 2, 3, 4, 5, 6] rfl)
      · have h := h.2 c6
        refine lv_iload_n F.1 F.2.1 dX12_feed_36 rfl (lv_at hl 1 rfl) ?_
        refine lv_goto (tgt := 76) F.1 F.2.1 dX12_feed_37 (by decide) ?_
        exact tX12_feed_76 l G F hr hlocks Q (wX12_feed_23 k120 Q n) (fun l1 l2 l3 l4 l5 l6 μ9 H locs ls h C hl => ih l1 l2 l3 l4 l5 l6 μ9 H locs ls h C hl) l1 l2 l3 l4 l5 l6 l1 μ H locs ls h C (lv_sub hl [0, 1, 2, 3, 4, 5, 6] rfl)
set_option maxRecDepth 100000 in
set_option maxHeartbeats 4000000 in
theorem hc_X12_feed (l : Launch) (G : km_G) (l1 : Int32) (l2 : Int32) (l3 : Int32) (l4 : Int32) (l5 : Int32) (μ : km_S) (Q : Int32 → km_S → Prop) (h : wX12_feed l1 l2 l3 l4 l5 μ Q) : km_M l G yX12_feed cX12_feed 8 (some .int) (0) (0) [.ref (G.1 0), .int l1, .int l2, .int l3, .int l4, .int l5] μ (km_Qi G Q) := by
  refine km_enter (by decide) rfl (Nat.le_of_ble_eq_true rfl) ?_
  intro p e s m below meth c ls F hr hlocks C hl
  have hl : lv_has ls 8 [(0, .ref (G.1 0)), (1, .int l1), (2, .int l2), (3, .int l3), (4, .int l4), (5, .int l5)] := hl
  obtain ⟨H, eH⟩ : ∃ z9, z9 = s.heap := ⟨_, rfl⟩
  obtain ⟨locs, eL⟩ : ∃ z9 : List Loc, z9 = [] := ⟨_, rfl⟩
  rw [← eH, ← eL] at C
  rw [← eH, ← eL]
  refine lv_aload_n F.1 F.2.1 dX12_feed_0 rfl (lv_at hl 0 rfl) ?_
  refine lv_iconst (v := 0) F.1 F.2.1 dX12_feed_1 (by decide) ?_
  refine kp_code F C dX12_feed_2 (fun H locs C => ?_)
  generalize eμ10 : km_si μ 1 0 = μ10 at C
  have h := h μ10 eμ10.symm
  refine lv_aload_n F.1 F.2.1 dX12_feed_5 rfl (lv_at hl 0 rfl) ?_
  refine kg_taped F C dX12_feed_6 ?_
  refine lv_bipush (v := 20) F.1 F.2.1 dX12_feed_9 (by decide) ?_
  refine lv_iadd (x := km_i μ10 9) (y := 20) F.1 F.2.1 dX12_feed_11 ?_
  refine lv_sipush (v := 500) F.1 F.2.1 dX12_feed_12 (by decide) ?_
  refine lv_icmp_le (tgt := 20) F.1 F.2.1 dX12_feed_15 (by decide) (fun c11 => ?_) (fun c11 => ?_)
  · have h := h.1 c11
    refine lv_iconst (v := 0) F.1 F.2.1 dX12_feed_20 (by decide) ?_
    refine lv_istore (lv' := [(6, .int 0), (0, .ref (G.1 0)), (1, .int l1), (2, .int l2), (3, .int l3), (4, .int l4), (5, .int l5)]) F.1 F.2.1 dX12_feed_21 hl (by decide) rfl (fun ls hl => ?_)
    obtain ⟨n12, h⟩ := h
    exact tX12_feed_23 l G F hr hlocks Q (wX12_feed_120 Q) (tX12_feed_120 l G F hr hlocks Q) n12 l1 l2 l3 l4 l5 0 μ10 H locs ls h C (lv_sub hl [1, 2, 3, 4, 5, 6, 0] rfl)
  · have h := h.2 c11
    refine lv_iconst (v := (-1)) F.1 F.2.1 dX12_feed_18 (by decide) ?_
    exact km_iret F C hr hlocks h dX12_feed_19
section
variable {p : Program} {l : Launch} {e : Env} {R : Room} {s : State} {m : MethodId} {args : Array Value} {below : List Frame} {meth : Method} {c : Code} {H : Heap} {locs : List Loc} {Q : State → Prop}
variable {cc : ByteArray} {pc nL : Nat} {ls : Array Slot} {rest : List Value} {G : km_G} {μ : km_S}
end
theorem dX12_cut_0 : decode cX12_cut 0 = .ok (.aload_n 0, 1) := by decide +kernel
theorem dX12_cut_1 : decode cX12_cut 1 = .ok (.iconst 0, 1) := by decide +kernel
theorem dX12_cut_2 : decode cX12_cut 2 = .ok (.putfield 173, 3) := by decide +kernel
theorem dX12_cut_5 : decode cX12_cut 5 = .ok (.aload_n 0, 1) := by decide +kernel
theorem dX12_cut_6 : decode cX12_cut 6 = .ok (.getfield 303, 3) := by decide +kernel
theorem dX12_cut_9 : decode cX12_cut 9 = .ok (.sipush 400, 3) := by decide +kernel
theorem dX12_cut_12 : decode cX12_cut 12 = .ok (.if_icmp .eq 35, 3) := by decide +kernel
theorem dX12_cut_15 : decode cX12_cut 15 = .ok (.iload_n 1, 1) := by decide +kernel
theorem dX12_cut_16 : decode cX12_cut 16 = .ok (.ifCond .lt 31, 3) := by decide +kernel
theorem dX12_cut_19 : decode cX12_cut 19 = .ok (.iload_n 1, 1) := by decide +kernel
theorem dX12_cut_20 : decode cX12_cut 20 = .ok (.bipush 15, 2) := by decide +kernel
theorem dX12_cut_22 : decode cX12_cut 22 = .ok (.if_icmp .gt 25, 3) := by decide +kernel
theorem dX12_cut_25 : decode cX12_cut 25 = .ok (.iload_n 2, 1) := by decide +kernel
theorem dX12_cut_26 : decode cX12_cut 26 = .ok (.iconst 1, 1) := by decide +kernel
theorem dX12_cut_27 : decode cX12_cut 27 = .ok (.if_icmp .lt 20, 3) := by decide +kernel
theorem dX12_cut_30 : decode cX12_cut 30 = .ok (.iload_n 2, 1) := by decide +kernel
theorem dX12_cut_31 : decode cX12_cut 31 = .ok (.bipush 9, 2) := by decide +kernel
theorem dX12_cut_33 : decode cX12_cut 33 = .ok (.if_icmp .gt 14, 3) := by decide +kernel
theorem dX12_cut_36 : decode cX12_cut 36 = .ok (.iload_n 3, 1) := by decide +kernel
theorem dX12_cut_37 : decode cX12_cut 37 = .ok (.ifCond .lt 10, 3) := by decide +kernel
theorem dX12_cut_40 : decode cX12_cut 40 = .ok (.iload_n 3, 1) := by decide +kernel
theorem dX12_cut_41 : decode cX12_cut 41 = .ok (.ldc_w 306, 3) := by decide +kernel
theorem dX12_cut_44 : decode cX12_cut 44 = .ok (.if_icmp .le 5, 3) := by decide +kernel
theorem dX12_cut_47 : decode cX12_cut 47 = .ok (.iconst (-1), 1) := by decide +kernel
theorem dX12_cut_48 : decode cX12_cut 48 = .ok (.ireturn, 1) := by decide +kernel
theorem dX12_cut_49 : decode cX12_cut 49 = .ok (.aload_n 0, 1) := by decide +kernel
theorem dX12_cut_50 : decode cX12_cut 50 = .ok (.getfield 101, 3) := by decide +kernel
theorem dX12_cut_53 : decode cX12_cut 53 = .ok (.aload_n 0, 1) := by decide +kernel
theorem dX12_cut_54 : decode cX12_cut 54 = .ok (.getfield 303, 3) := by decide +kernel
theorem dX12_cut_57 : decode cX12_cut 57 = .ok (.iload_n 1, 1) := by decide +kernel
theorem dX12_cut_58 : decode cX12_cut 58 = .ok (.iastore, 1) := by decide +kernel
theorem dX12_cut_59 : decode cX12_cut 59 = .ok (.aload_n 0, 1) := by decide +kernel
theorem dX12_cut_60 : decode cX12_cut 60 = .ok (.getfield 103, 3) := by decide +kernel
theorem dX12_cut_63 : decode cX12_cut 63 = .ok (.aload_n 0, 1) := by decide +kernel
theorem dX12_cut_64 : decode cX12_cut 64 = .ok (.getfield 303, 3) := by decide +kernel
theorem dX12_cut_67 : decode cX12_cut 67 = .ok (.iload_n 2, 1) := by decide +kernel
theorem dX12_cut_68 : decode cX12_cut 68 = .ok (.iastore, 1) := by decide +kernel
theorem dX12_cut_69 : decode cX12_cut 69 = .ok (.aload_n 0, 1) := by decide +kernel
theorem dX12_cut_70 : decode cX12_cut 70 = .ok (.getfield 105, 3) := by decide +kernel
theorem dX12_cut_73 : decode cX12_cut 73 = .ok (.aload_n 0, 1) := by decide +kernel
theorem dX12_cut_74 : decode cX12_cut 74 = .ok (.getfield 303, 3) := by decide +kernel
theorem dX12_cut_77 : decode cX12_cut 77 = .ok (.iload_n 3, 1) := by decide +kernel
theorem dX12_cut_78 : decode cX12_cut 78 = .ok (.iastore, 1) := by decide +kernel
theorem dX12_cut_79 : decode cX12_cut 79 = .ok (.aload_n 0, 1) := by decide +kernel
theorem dX12_cut_80 : decode cX12_cut 80 = .ok (.getfield 107, 3) := by decide +kernel
theorem dX12_cut_83 : decode cX12_cut 83 = .ok (.aload_n 0, 1) := by decide +kernel
theorem dX12_cut_84 : decode cX12_cut 84 = .ok (.getfield 303, 3) := by decide +kernel
theorem dX12_cut_87 : decode cX12_cut 87 = .ok (.iconst 0, 1) := by decide +kernel
theorem dX12_cut_88 : decode cX12_cut 88 = .ok (.iastore, 1) := by decide +kernel
theorem dX12_cut_89 : decode cX12_cut 89 = .ok (.aload_n 0, 1) := by decide +kernel
theorem dX12_cut_90 : decode cX12_cut 90 = .ok (.getfield 110, 3) := by decide +kernel
theorem dX12_cut_93 : decode cX12_cut 93 = .ok (.aload_n 0, 1) := by decide +kernel
theorem dX12_cut_94 : decode cX12_cut 94 = .ok (.getfield 303, 3) := by decide +kernel
theorem dX12_cut_97 : decode cX12_cut 97 = .ok (.iconst (-1), 1) := by decide +kernel
theorem dX12_cut_98 : decode cX12_cut 98 = .ok (.iastore, 1) := by decide +kernel
theorem dX12_cut_99 : decode cX12_cut 99 = .ok (.aload_n 0, 1) := by decide +kernel
theorem dX12_cut_100 : decode cX12_cut 100 = .ok (.getfield 113, 3) := by decide +kernel
theorem dX12_cut_103 : decode cX12_cut 103 = .ok (.aload_n 0, 1) := by decide +kernel
theorem dX12_cut_104 : decode cX12_cut 104 = .ok (.getfield 303, 3) := by decide +kernel
theorem dX12_cut_107 : decode cX12_cut 107 = .ok (.iconst (-1), 1) := by decide +kernel
theorem dX12_cut_108 : decode cX12_cut 108 = .ok (.iastore, 1) := by decide +kernel
theorem dX12_cut_109 : decode cX12_cut 109 = .ok (.aload_n 0, 1) := by decide +kernel
theorem dX12_cut_110 : decode cX12_cut 110 = .ok (.getfield 118, 3) := by decide +kernel
theorem dX12_cut_113 : decode cX12_cut 113 = .ok (.aload_n 0, 1) := by decide +kernel
theorem dX12_cut_114 : decode cX12_cut 114 = .ok (.getfield 303, 3) := by decide +kernel
theorem dX12_cut_117 : decode cX12_cut 117 = .ok (.iconst (-1), 1) := by decide +kernel
theorem dX12_cut_118 : decode cX12_cut 118 = .ok (.iastore, 1) := by decide +kernel
theorem dX12_cut_119 : decode cX12_cut 119 = .ok (.aload_n 0, 1) := by decide +kernel
theorem dX12_cut_120 : decode cX12_cut 120 = .ok (.dup, 1) := by decide +kernel
theorem dX12_cut_121 : decode cX12_cut 121 = .ok (.getfield 303, 3) := by decide +kernel
theorem dX12_cut_124 : decode cX12_cut 124 = .ok (.iconst 1, 1) := by decide +kernel
theorem dX12_cut_125 : decode cX12_cut 125 = .ok (.iadd, 1) := by decide +kernel
theorem dX12_cut_126 : decode cX12_cut 126 = .ok (.putfield 303, 3) := by decide +kernel
theorem dX12_cut_129 : decode cX12_cut 129 = .ok (.aload_n 0, 1) := by decide +kernel
theorem dX12_cut_130 : decode cX12_cut 130 = .ok (.getfield 303, 3) := by decide +kernel
theorem dX12_cut_133 : decode cX12_cut 133 = .ok (.iconst 1, 1) := by decide +kernel
theorem dX12_cut_134 : decode cX12_cut 134 = .ok (.isub, 1) := by decide +kernel
theorem dX12_cut_135 : decode cX12_cut 135 = .ok (.ireturn, 1) := by decide +kernel
def wX12_cut (l1 : Int32) (l2 : Int32) (l3 : Int32) (μ : km_S) (Q : Int32 → km_S → Prop) : Prop := ∀ μ1, μ1 = km_si μ 1 0 → (((km_i μ1 4) = 400 → Q (-1) μ1) ∧
  (¬ ((km_i μ1 4) = 400) → ((l1 < 0 → Q (-1) μ1) ∧
    (¬ (l1 < 0) → ((15 < l1 → Q (-1) μ1) ∧
      (¬ (15 < l1) → ((l2 < 1 → Q (-1) μ1) ∧
        (¬ (l2 < 1) → ((9 < l2 → Q (-1) μ1) ∧
          (¬ (9 < l2) → ((l3 < 0 → Q (-1) μ1) ∧
            (¬ (l3 < 0) → ((l3 ≤ 1000000 → vp_in (km_i μ1 4) 400 ∧ ∀ μ10, μ10 = km_sa μ1 35 (km_i μ1 4).toNatClampNeg l1 → vp_in (km_i μ10 4) 400 ∧ ∀ μ12, μ12 = km_sa μ10 36 (km_i μ10 4).toNatClampNeg l2 → vp_in (km_i μ12 4) 400 ∧ ∀ μ14, μ14 = km_sa μ12 37 (km_i μ12 4).toNatClampNeg l3 → vp_in (km_i μ14 4) 400 ∧ ∀ μ16, μ16 = km_sa μ14 38 (km_i μ14 4).toNatClampNeg 0 → vp_in (km_i μ16 4) 400 ∧ ∀ μ18, μ18 = km_sa μ16 39 (km_i μ16 4).toNatClampNeg (-1) → vp_in (km_i μ18 4) 400 ∧ ∀ μ20, μ20 = km_sa μ18 40 (km_i μ18 4).toNatClampNeg (-1) → vp_in (km_i μ20 4) 400 ∧ ∀ μ22, μ22 = km_sa μ20 42 (km_i μ20 4).toNatClampNeg (-1) → ∀ μ23, μ23 = km_si μ22 4 ((km_i μ22 4) + 1) → Q ((km_i μ23 4) - 1) μ23) ∧
              (¬ (l3 ≤ 1000000) → Q (-1) μ1))))))))))))))
set_option maxRecDepth 100000 in
set_option maxHeartbeats 4000000 in
theorem hc_X12_cut (l : Launch) (G : km_G) (l1 : Int32) (l2 : Int32) (l3 : Int32) (μ : km_S) (Q : Int32 → km_S → Prop) (h : wX12_cut l1 l2 l3 μ Q) : km_M l G yX12_cut cX12_cut 4 (some .int) (0) (0) [.ref (G.1 0), .int l1, .int l2, .int l3] μ (km_Qi G Q) := by
  refine km_enter (by decide) rfl (Nat.le_of_ble_eq_true rfl) ?_
  intro p e s m below meth c ls F hr hlocks C hl
  have hl : lv_has ls 4 [(0, .ref (G.1 0)), (1, .int l1), (2, .int l2), (3, .int l3)] := hl
  obtain ⟨H, eH⟩ : ∃ z9, z9 = s.heap := ⟨_, rfl⟩
  obtain ⟨locs, eL⟩ : ∃ z9 : List Loc, z9 = [] := ⟨_, rfl⟩
  rw [← eH, ← eL] at C
  rw [← eH, ← eL]
  refine lv_aload_n F.1 F.2.1 dX12_cut_0 rfl (lv_at hl 0 rfl) ?_
  refine lv_iconst (v := 0) F.1 F.2.1 dX12_cut_1 (by decide) ?_
  refine kp_code F C dX12_cut_2 (fun H locs C => ?_)
  generalize eμ1 : km_si μ 1 0 = μ1 at C
  have h := h μ1 eμ1.symm
  refine lv_aload_n F.1 F.2.1 dX12_cut_5 rfl (lv_at hl 0 rfl) ?_
  refine kg_logs F C dX12_cut_6 ?_
  refine lv_sipush (v := 400) F.1 F.2.1 dX12_cut_9 (by decide) ?_
  refine lv_icmp_eq (tgt := 47) F.1 F.2.1 dX12_cut_12 (by decide) (fun c2 => ?_) (fun c2 => ?_)
  · have h := h.1 c2
    refine lv_iconst (v := (-1)) F.1 F.2.1 dX12_cut_47 (by decide) ?_
    exact km_iret F C hr hlocks h dX12_cut_48
  · have h := h.2 c2
    refine lv_iload_n F.1 F.2.1 dX12_cut_15 rfl (lv_at hl 1 rfl) ?_
    refine lv_if_lt (tgt := 47) F.1 F.2.1 dX12_cut_16 (by decide) (fun c3 => ?_) (fun c3 => ?_)
    · have h := h.1 c3
      refine lv_iconst (v := (-1)) F.1 F.2.1 dX12_cut_47 (by decide) ?_
      exact km_iret F C hr hlocks h dX12_cut_48
    · have h := h.2 c3
      refine lv_iload_n F.1 F.2.1 dX12_cut_19 rfl (lv_at hl 1 rfl) ?_
      refine lv_bipush (v := 15) F.1 F.2.1 dX12_cut_20 (by decide) ?_
      refine lv_icmp_gt (tgt := 47) F.1 F.2.1 dX12_cut_22 (by decide) (fun c4 => ?_) (fun c4 => ?_)
      · have h := h.1 c4
        refine lv_iconst (v := (-1)) F.1 F.2.1 dX12_cut_47 (by decide) ?_
        exact km_iret F C hr hlocks h dX12_cut_48
      · have h := h.2 c4
        refine lv_iload_n F.1 F.2.1 dX12_cut_25 rfl (lv_at hl 2 rfl) ?_
        refine lv_iconst (v := 1) F.1 F.2.1 dX12_cut_26 (by decide) ?_
        refine lv_icmp_lt (tgt := 47) F.1 F.2.1 dX12_cut_27 (by decide) (fun c5 => ?_) (fun c5 => ?_)
        · have h := h.1 c5
          refine lv_iconst (v := (-1)) F.1 F.2.1 dX12_cut_47 (by decide) ?_
          exact km_iret F C hr hlocks h dX12_cut_48
        · have h := h.2 c5
          refine lv_iload_n F.1 F.2.1 dX12_cut_30 rfl (lv_at hl 2 rfl) ?_
          refine lv_bipush (v := 9) F.1 F.2.1 dX12_cut_31 (by decide) ?_
          refine lv_icmp_gt (tgt := 47) F.1 F.2.1 dX12_cut_33 (by decide) (fun c6 => ?_) (fun c6 => ?_)
          · have h := h.1 c6
            refine lv_iconst (v := (-1)) F.1 F.2.1 dX12_cut_47 (by decide) ?_
            exact km_iret F C hr hlocks h dX12_cut_48
          · have h := h.2 c6
            refine lv_iload_n F.1 F.2.1 dX12_cut_36 rfl (lv_at hl 3 rfl) ?_
            refine lv_if_lt (tgt := 47) F.1 F.2.1 dX12_cut_37 (by decide) (fun c7 => ?_) (fun c7 => ?_)
            · have h := h.1 c7
              refine lv_iconst (v := (-1)) F.1 F.2.1 dX12_cut_47 (by decide) ?_
              exact km_iret F C hr hlocks h dX12_cut_48
            · have h := h.2 c7
              refine lv_iload_n F.1 F.2.1 dX12_cut_40 rfl (lv_at hl 3 rfl) ?_
              refine lv_ldcw (v := 1000000) F.1 F.2.1 F.2.2.2.1 (F.2.2.2.2 _ tw_196) dX12_cut_41 ?_
              refine lv_icmp_le (tgt := 49) F.1 F.2.1 dX12_cut_44 (by decide) (fun c8 => ?_) (fun c8 => ?_)
              · have h := h.1 c8
                refine lv_aload_n F.1 F.2.1 dX12_cut_49 rfl (lv_at hl 0 rfl) ?_
                refine kg_mark F C dX12_cut_50 ?_
                refine lv_aload_n F.1 F.2.1 dX12_cut_53 rfl (lv_at hl 0 rfl) ?_
                refine kg_logs F C dX12_cut_54 ?_
                refine lv_iload_n F.1 F.2.1 dX12_cut_57 rfl (lv_at hl 1 rfl) ?_
                obtain ⟨hn9, h⟩ := h
                refine kq_mark F C hn9 dX12_cut_58 (fun H locs C => ?_)
                generalize eμ10 : km_sa μ1 35 (km_i μ1 4).toNatClampNeg l1 = μ10 at C
                have h := h μ10 eμ10.symm
                refine lv_aload_n F.1 F.2.1 dX12_cut_59 rfl (lv_at hl 0 rfl) ?_
                refine kg_size F C dX12_cut_60 ?_
                refine lv_aload_n F.1 F.2.1 dX12_cut_63 rfl (lv_at hl 0 rfl) ?_
                refine kg_logs F C dX12_cut_64 ?_
                refine lv_iload_n F.1 F.2.1 dX12_cut_67 rfl (lv_at hl 2 rfl) ?_
                obtain ⟨hn11, h⟩ := h
                refine kq_size F C hn11 dX12_cut_68 (fun H locs C => ?_)
                generalize eμ12 : km_sa μ10 36 (km_i μ10 4).toNatClampNeg l2 = μ12 at C
                have h := h μ12 eμ12.symm
                refine lv_aload_n F.1 F.2.1 dX12_cut_69 rfl (lv_at hl 0 rfl) ?_
                refine kg_stump F C dX12_cut_70 ?_
                refine lv_aload_n F.1 F.2.1 dX12_cut_73 rfl (lv_at hl 0 rfl) ?_
                refine kg_logs F C dX12_cut_74 ?_
                refine lv_iload_n F.1 F.2.1 dX12_cut_77 rfl (lv_at hl 3 rfl) ?_
                obtain ⟨hn13, h⟩ := h
                refine kq_stump F C hn13 dX12_cut_78 (fun H locs C => ?_)
                generalize eμ14 : km_sa μ12 37 (km_i μ12 4).toNatClampNeg l3 = μ14 at C
                have h := h μ14 eμ14.symm
                refine lv_aload_n F.1 F.2.1 dX12_cut_79 rfl (lv_at hl 0 rfl) ?_
                refine kg_place F C dX12_cut_80 ?_
                refine lv_aload_n F.1 F.2.1 dX12_cut_83 rfl (lv_at hl 0 rfl) ?_
                refine kg_logs F C dX12_cut_84 ?_
                refine lv_iconst (v := 0) F.1 F.2.1 dX12_cut_87 (by decide) ?_
                obtain ⟨hn15, h⟩ := h
                refine kq_place F C hn15 dX12_cut_88 (fun H locs C => ?_)
                generalize eμ16 : km_sa μ14 38 (km_i μ14 4).toNatClampNeg 0 = μ16 at C
                have h := h μ16 eμ16.symm
                refine lv_aload_n F.1 F.2.1 dX12_cut_89 rfl (lv_at hl 0 rfl) ?_
                refine kg_reachOf F C dX12_cut_90 ?_
                refine lv_aload_n F.1 F.2.1 dX12_cut_93 rfl (lv_at hl 0 rfl) ?_
                refine kg_logs F C dX12_cut_94 ?_
                refine lv_iconst (v := (-1)) F.1 F.2.1 dX12_cut_97 (by decide) ?_
                obtain ⟨hn17, h⟩ := h
                refine kq_reachOf F C hn17 dX12_cut_98 (fun H locs C => ?_)
                generalize eμ18 : km_sa μ16 39 (km_i μ16 4).toNatClampNeg (-1) = μ18 at C
                have h := h μ18 eμ18.symm
                refine lv_aload_n F.1 F.2.1 dX12_cut_99 rfl (lv_at hl 0 rfl) ?_
                refine kg_cellOf F C dX12_cut_100 ?_
                refine lv_aload_n F.1 F.2.1 dX12_cut_103 rfl (lv_at hl 0 rfl) ?_
                refine kg_logs F C dX12_cut_104 ?_
                refine lv_iconst (v := (-1)) F.1 F.2.1 dX12_cut_107 (by decide) ?_
                obtain ⟨hn19, h⟩ := h
                refine kq_cellOf F C hn19 dX12_cut_108 (fun H locs C => ?_)
                generalize eμ20 : km_sa μ18 40 (km_i μ18 4).toNatClampNeg (-1) = μ20 at C
                have h := h μ20 eμ20.symm
                refine lv_aload_n F.1 F.2.1 dX12_cut_109 rfl (lv_at hl 0 rfl) ?_
                refine kg_firstBoard F C dX12_cut_110 ?_
                refine lv_aload_n F.1 F.2.1 dX12_cut_113 rfl (lv_at hl 0 rfl) ?_
                refine kg_logs F C dX12_cut_114 ?_
                refine lv_iconst (v := (-1)) F.1 F.2.1 dX12_cut_117 (by decide) ?_
                obtain ⟨hn21, h⟩ := h
                refine kq_firstBoard F C hn21 dX12_cut_118 (fun H locs C => ?_)
                generalize eμ22 : km_sa μ20 42 (km_i μ20 4).toNatClampNeg (-1) = μ22 at C
                have h := h μ22 eμ22.symm
                refine lv_aload_n F.1 F.2.1 dX12_cut_119 rfl (lv_at hl 0 rfl) ?_
                refine lv_dup F.1 F.2.1 dX12_cut_120 rfl ?_
                refine kg_logs F C dX12_cut_121 ?_
                refine lv_iconst (v := 1) F.1 F.2.1 dX12_cut_124 (by decide) ?_
                refine lv_iadd (x := km_i μ22 4) (y := 1) F.1 F.2.1 dX12_cut_125 ?_
                refine kp_logs F C dX12_cut_126 (fun H locs C => ?_)
                generalize eμ23 : km_si μ22 4 ((km_i μ22 4) + 1) = μ23 at C
                have h := h μ23 eμ23.symm
                refine lv_aload_n F.1 F.2.1 dX12_cut_129 rfl (lv_at hl 0 rfl) ?_
                refine kg_logs F C dX12_cut_130 ?_
                refine lv_iconst (v := 1) F.1 F.2.1 dX12_cut_133 (by decide) ?_
                refine lv_isub (x := km_i μ23 4) (y := 1) F.1 F.2.1 dX12_cut_134 ?_
                exact km_iret F C hr hlocks h dX12_cut_135
              · have h := h.2 c8
                refine lv_iconst (v := (-1)) F.1 F.2.1 dX12_cut_47 (by decide) ?_
                exact km_iret F C hr hlocks h dX12_cut_48
section
variable {p : Program} {l : Launch} {e : Env} {R : Room} {s : State} {m : MethodId} {args : Array Value} {below : List Frame} {meth : Method} {c : Code} {H : Heap} {locs : List Loc} {Q : State → Prop}
variable {cc : ByteArray} {pc nL : Nat} {ls : Array Slot} {rest : List Value} {G : km_G} {μ : km_S}
end
theorem dX12_lay_0 : decode cX12_lay 0 = .ok (.iload_n 2, 1) := by decide +kernel
theorem dX12_lay_1 : decode cX12_lay 1 = .ok (.iload_n 3, 1) := by decide +kernel
theorem dX12_lay_2 : decode cX12_lay 2 = .ok (.invokestatic 307, 3) := by decide +kernel
theorem dX12_lay_5 : decode cX12_lay 5 = .ok (.istore 4, 2) := by decide +kernel
theorem dX12_lay_7 : decode cX12_lay 7 = .ok (.aload_n 0, 1) := by decide +kernel
theorem dX12_lay_8 : decode cX12_lay 8 = .ok (.getfield 92, 3) := by decide +kernel
theorem dX12_lay_11 : decode cX12_lay 11 = .ok (.bipush 20, 2) := by decide +kernel
theorem dX12_lay_13 : decode cX12_lay 13 = .ok (.iload 4, 2) := by decide +kernel
theorem dX12_lay_15 : decode cX12_lay 15 = .ok (.imul, 1) := by decide +kernel
theorem dX12_lay_16 : decode cX12_lay 16 = .ok (.aload_n 0, 1) := by decide +kernel
theorem dX12_lay_17 : decode cX12_lay 17 = .ok (.getfield 89, 3) := by decide +kernel
theorem dX12_lay_20 : decode cX12_lay 20 = .ok (.iload 4, 2) := by decide +kernel
theorem dX12_lay_22 : decode cX12_lay 22 = .ok (.iaload, 1) := by decide +kernel
theorem dX12_lay_23 : decode cX12_lay 23 = .ok (.iadd, 1) := by decide +kernel
theorem dX12_lay_24 : decode cX12_lay 24 = .ok (.iload_n 1, 1) := by decide +kernel
theorem dX12_lay_25 : decode cX12_lay 25 = .ok (.iastore, 1) := by decide +kernel
theorem dX12_lay_26 : decode cX12_lay 26 = .ok (.aload_n 0, 1) := by decide +kernel
theorem dX12_lay_27 : decode cX12_lay 27 = .ok (.getfield 89, 3) := by decide +kernel
theorem dX12_lay_30 : decode cX12_lay 30 = .ok (.iload 4, 2) := by decide +kernel
theorem dX12_lay_32 : decode cX12_lay 32 = .ok (.dup2, 1) := by decide +kernel
theorem dX12_lay_33 : decode cX12_lay 33 = .ok (.iaload, 1) := by decide +kernel
theorem dX12_lay_34 : decode cX12_lay 34 = .ok (.iconst 1, 1) := by decide +kernel
theorem dX12_lay_35 : decode cX12_lay 35 = .ok (.iadd, 1) := by decide +kernel
theorem dX12_lay_36 : decode cX12_lay 36 = .ok (.iastore, 1) := by decide +kernel
theorem dX12_lay_37 : decode cX12_lay 37 = .ok (.aload_n 0, 1) := by decide +kernel
theorem dX12_lay_38 : decode cX12_lay 38 = .ok (.getfield 110, 3) := by decide +kernel
theorem dX12_lay_41 : decode cX12_lay 41 = .ok (.iload_n 1, 1) := by decide +kernel
theorem dX12_lay_42 : decode cX12_lay 42 = .ok (.iload_n 2, 1) := by decide +kernel
theorem dX12_lay_43 : decode cX12_lay 43 = .ok (.iastore, 1) := by decide +kernel
theorem dX12_lay_44 : decode cX12_lay 44 = .ok (.aload_n 0, 1) := by decide +kernel
theorem dX12_lay_45 : decode cX12_lay 45 = .ok (.getfield 113, 3) := by decide +kernel
theorem dX12_lay_48 : decode cX12_lay 48 = .ok (.iload_n 1, 1) := by decide +kernel
theorem dX12_lay_49 : decode cX12_lay 49 = .ok (.iload_n 3, 1) := by decide +kernel
theorem dX12_lay_50 : decode cX12_lay 50 = .ok (.iastore, 1) := by decide +kernel
theorem dX12_lay_51 : decode cX12_lay 51 = .ok (.return_, 1) := by decide +kernel
def wX12_lay (l1 : Int32) (l2 : Int32) (l3 : Int32) (μ : km_S) (Q : km_S → Prop) : Prop := wX12_at0 l2 l3 μ fun r2 μ1 => vp_in r2 120 ∧ vp_in ((20 * r2) + (km_a μ1 31 r2.toNatClampNeg)) 2400 ∧ ∀ μ5, μ5 = km_sa μ1 32 ((20 * r2) + (km_a μ1 31 r2.toNatClampNeg)).toNatClampNeg l1 → vp_in r2 120 ∧ vp_in r2 120 ∧ ∀ μ8, μ8 = km_sa μ5 31 r2.toNatClampNeg ((km_a μ5 31 r2.toNatClampNeg) + 1) → vp_in l1 400 ∧ ∀ μ10, μ10 = km_sa μ8 39 l1.toNatClampNeg l2 → vp_in l1 400 ∧ ∀ μ12, μ12 = km_sa μ10 40 l1.toNatClampNeg l3 → Q μ12
set_option maxRecDepth 100000 in
set_option maxHeartbeats 4000000 in
theorem hc_X12_lay (l : Launch) (G : km_G) (l1 : Int32) (l2 : Int32) (l3 : Int32) (μ : km_S) (Q : km_S → Prop) (h : wX12_lay l1 l2 l3 μ Q) : km_M l G yX12_lay cX12_lay 5 none (1) (21) [.ref (G.1 0), .int l1, .int l2, .int l3] μ (km_Qv G Q) := by
  refine km_enter (by decide) rfl (Nat.le_of_ble_eq_true rfl) ?_
  intro p e s m below meth c ls F hr hlocks C hl
  have hl : lv_has ls 5 [(0, .ref (G.1 0)), (1, .int l1), (2, .int l2), (3, .int l3)] := hl
  obtain ⟨H, eH⟩ : ∃ z9, z9 = s.heap := ⟨_, rfl⟩
  obtain ⟨locs, eL⟩ : ∃ z9 : List Loc, z9 = [] := ⟨_, rfl⟩
  rw [← eH, ← eL] at C
  rw [← eH, ← eL]
  refine lv_iload_n F.1 F.2.1 dX12_lay_0 rfl (lv_at hl 2 rfl) ?_
  refine lv_iload_n F.1 F.2.1 dX12_lay_1 rfl (lv_at hl 3 rfl) ?_
  refine kc_X12_at0 F C h (Nat.le_of_ble_eq_true rfl) (Nat.le_of_ble_eq_true rfl) hl.1 (by simp [Value.category]) dX12_lay_2 (fun r2 μ1 H locs h C => ?_)
  refine lv_istore (lv' := [(4, .int r2), (0, .ref (G.1 0)), (1, .int l1), (2, .int l2), (3, .int l3)]) F.1 F.2.1 dX12_lay_5 hl (by decide) rfl (fun ls hl => ?_)
  refine lv_aload_n F.1 F.2.1 dX12_lay_7 rfl (lv_at hl 1 rfl) ?_
  refine kg_lie F C dX12_lay_8 ?_
  refine lv_bipush (v := 20) F.1 F.2.1 dX12_lay_11 (by decide) ?_
  refine lv_iload F.1 F.2.1 dX12_lay_13 (lv_at hl 0 rfl) ?_
  refine lv_imul (x := 20) (y := r2) F.1 F.2.1 dX12_lay_15 ?_
  refine lv_aload_n F.1 F.2.1 dX12_lay_16 rfl (lv_at hl 1 rfl) ?_
  refine kg_holds F C dX12_lay_17 ?_
  refine lv_iload F.1 F.2.1 dX12_lay_20 (lv_at hl 0 rfl) ?_
  obtain ⟨hn3, h⟩ := h
  refine kl_holds F C hn3 dX12_lay_22 ?_
  refine lv_iadd (x := 20 * r2) (y := km_a μ1 31 r2.toNatClampNeg) F.1 F.2.1 dX12_lay_23 ?_
  refine lv_iload_n F.1 F.2.1 dX12_lay_24 rfl (lv_at hl 2 rfl) ?_
  obtain ⟨hn4, h⟩ := h
  refine kq_lie F C hn4 dX12_lay_25 (fun H locs C => ?_)
  generalize eμ5 : km_sa μ1 32 ((20 * r2) + (km_a μ1 31 r2.toNatClampNeg)).toNatClampNeg l1 = μ5 at C
  have h := h μ5 eμ5.symm
  refine lv_aload_n F.1 F.2.1 dX12_lay_26 rfl (lv_at hl 1 rfl) ?_
  refine kg_holds F C dX12_lay_27 ?_
  refine lv_iload F.1 F.2.1 dX12_lay_30 (lv_at hl 0 rfl) ?_
  refine lv_dup2_11 F.1 F.2.1 dX12_lay_32 rfl rfl ?_
  obtain ⟨hn6, h⟩ := h
  refine kl_holds F C hn6 dX12_lay_33 ?_
  refine lv_iconst (v := 1) F.1 F.2.1 dX12_lay_34 (by decide) ?_
  refine lv_iadd (x := km_a μ5 31 r2.toNatClampNeg) (y := 1) F.1 F.2.1 dX12_lay_35 ?_
  obtain ⟨hn7, h⟩ := h
  refine kq_holds F C hn7 dX12_lay_36 (fun H locs C => ?_)
  generalize eμ8 : km_sa μ5 31 r2.toNatClampNeg ((km_a μ5 31 r2.toNatClampNeg) + 1) = μ8 at C
  have h := h μ8 eμ8.symm
  refine lv_aload_n F.1 F.2.1 dX12_lay_37 rfl (lv_at hl 1 rfl) ?_
  refine kg_reachOf F C dX12_lay_38 ?_
  refine lv_iload_n F.1 F.2.1 dX12_lay_41 rfl (lv_at hl 2 rfl) ?_
  refine lv_iload_n F.1 F.2.1 dX12_lay_42 rfl (lv_at hl 3 rfl) ?_
  obtain ⟨hn9, h⟩ := h
  refine kq_reachOf F C hn9 dX12_lay_43 (fun H locs C => ?_)
  generalize eμ10 : km_sa μ8 39 l1.toNatClampNeg l2 = μ10 at C
  have h := h μ10 eμ10.symm
  refine lv_aload_n F.1 F.2.1 dX12_lay_44 rfl (lv_at hl 1 rfl) ?_
  refine kg_cellOf F C dX12_lay_45 ?_
  refine lv_iload_n F.1 F.2.1 dX12_lay_48 rfl (lv_at hl 2 rfl) ?_
  refine lv_iload_n F.1 F.2.1 dX12_lay_49 rfl (lv_at hl 4 rfl) ?_
  obtain ⟨hn11, h⟩ := h
  refine kq_cellOf F C hn11 dX12_lay_50 (fun H locs C => ?_)
  generalize eμ12 : km_sa μ10 40 l1.toNatClampNeg l3 = μ12 at C
  have h := h μ12 eμ12.symm
  exact km_vret F C hr hlocks h dX12_lay_51
section
variable {p : Program} {l : Launch} {e : Env} {R : Room} {s : State} {m : MethodId} {args : Array Value} {below : List Frame} {meth : Method} {c : Code} {H : Heap} {locs : List Loc} {Q : State → Prop}
variable {cc : ByteArray} {pc nL : Nat} {ls : Array Slot} {rest : List Value} {G : km_G} {μ : km_S}
theorem kc_X12_lay (F : CallFix p m c cc nL s args kt_ RX12) (C : km_X G s H locs μ) {P : km_S → Prop} {l1 : Int32} {l2 : Int32} {l3 : Int32} (h : wX12_lay l1 l2 l3 μ P) (h1 : (1) + 1 ≤ R.frames) (h2 : 8 + (5 + 11) + (21) ≤ R.locals) (hsz : ls.size = nL) (hW : (rest.map fun v => v.category).sum ≤ 8) (hdg : decode cc pc = .ok (.invokevirtual 325, 3)) (kk : ∀ (μ' : km_S) (H1 : Heap) (locs1 : List Loc), P μ' → km_X G s H1 locs1 μ' → W p l e R s m args below meth c H1 locs1 0 0 Q (F0 m (pc + 3) ls rest)) : W p l e R s m args below meth c H locs 0 0 Q (F0 m pc ls (.int l3 :: .int l2 :: .int l1 :: .ref (G.1 0) :: rest)) :=
  km_cVv (n := 3) (As := [.int l1, .int l2, .int l3]) F C (hc_X12_lay l G l1 l2 l3 μ P h) (kt_V tw_197 tw_198 tw_199 tw_151 tw_200) (by decide +kernel) ⟨h1, h2⟩ rfl hsz hW hdg kk
end
theorem dX12_lift_0 : decode cX12_lift 0 = .ok (.aload_n 0, 1) := by decide +kernel
theorem dX12_lift_1 : decode cX12_lift 1 = .ok (.getfield 110, 3) := by decide +kernel
theorem dX12_lift_4 : decode cX12_lift 4 = .ok (.iload_n 1, 1) := by decide +kernel
theorem dX12_lift_5 : decode cX12_lift 5 = .ok (.iaload, 1) := by decide +kernel
theorem dX12_lift_6 : decode cX12_lift 6 = .ok (.aload_n 0, 1) := by decide +kernel
theorem dX12_lift_7 : decode cX12_lift 7 = .ok (.getfield 113, 3) := by decide +kernel
theorem dX12_lift_10 : decode cX12_lift 10 = .ok (.iload_n 1, 1) := by decide +kernel
theorem dX12_lift_11 : decode cX12_lift 11 = .ok (.iaload, 1) := by decide +kernel
theorem dX12_lift_12 : decode cX12_lift 12 = .ok (.invokestatic 307, 3) := by decide +kernel
theorem dX12_lift_15 : decode cX12_lift 15 = .ok (.istore_n 2, 1) := by decide +kernel
theorem dX12_lift_16 : decode cX12_lift 16 = .ok (.iconst 0, 1) := by decide +kernel
theorem dX12_lift_17 : decode cX12_lift 17 = .ok (.istore_n 3, 1) := by decide +kernel
theorem dX12_lift_18 : decode cX12_lift 18 = .ok (.iconst 0, 1) := by decide +kernel
theorem dX12_lift_19 : decode cX12_lift 19 = .ok (.istore 4, 2) := by decide +kernel
theorem dX12_lift_21 : decode cX12_lift 21 = .ok (.iload 4, 2) := by decide +kernel
theorem dX12_lift_23 : decode cX12_lift 23 = .ok (.aload_n 0, 1) := by decide +kernel
theorem dX12_lift_24 : decode cX12_lift 24 = .ok (.getfield 89, 3) := by decide +kernel
theorem dX12_lift_27 : decode cX12_lift 27 = .ok (.iload_n 2, 1) := by decide +kernel
theorem dX12_lift_28 : decode cX12_lift 28 = .ok (.iaload, 1) := by decide +kernel
theorem dX12_lift_29 : decode cX12_lift 29 = .ok (.if_icmp .ge 48, 3) := by decide +kernel
theorem dX12_lift_32 : decode cX12_lift 32 = .ok (.aload_n 0, 1) := by decide +kernel
theorem dX12_lift_33 : decode cX12_lift 33 = .ok (.getfield 92, 3) := by decide +kernel
theorem dX12_lift_36 : decode cX12_lift 36 = .ok (.bipush 20, 2) := by decide +kernel
theorem dX12_lift_38 : decode cX12_lift 38 = .ok (.iload_n 2, 1) := by decide +kernel
theorem dX12_lift_39 : decode cX12_lift 39 = .ok (.imul, 1) := by decide +kernel
theorem dX12_lift_40 : decode cX12_lift 40 = .ok (.iload 4, 2) := by decide +kernel
theorem dX12_lift_42 : decode cX12_lift 42 = .ok (.iadd, 1) := by decide +kernel
theorem dX12_lift_43 : decode cX12_lift 43 = .ok (.iaload, 1) := by decide +kernel
theorem dX12_lift_44 : decode cX12_lift 44 = .ok (.istore 5, 2) := by decide +kernel
theorem dX12_lift_46 : decode cX12_lift 46 = .ok (.iload 5, 2) := by decide +kernel
theorem dX12_lift_48 : decode cX12_lift 48 = .ok (.iload_n 1, 1) := by decide +kernel
theorem dX12_lift_49 : decode cX12_lift 49 = .ok (.if_icmp .ne 6, 3) := by decide +kernel
theorem dX12_lift_52 : decode cX12_lift 52 = .ok (.goto 19, 3) := by decide +kernel
theorem dX12_lift_55 : decode cX12_lift 55 = .ok (.aload_n 0, 1) := by decide +kernel
theorem dX12_lift_56 : decode cX12_lift 56 = .ok (.getfield 92, 3) := by decide +kernel
theorem dX12_lift_59 : decode cX12_lift 59 = .ok (.bipush 20, 2) := by decide +kernel
theorem dX12_lift_61 : decode cX12_lift 61 = .ok (.iload_n 2, 1) := by decide +kernel
theorem dX12_lift_62 : decode cX12_lift 62 = .ok (.imul, 1) := by decide +kernel
theorem dX12_lift_63 : decode cX12_lift 63 = .ok (.iload_n 3, 1) := by decide +kernel
theorem dX12_lift_64 : decode cX12_lift 64 = .ok (.iadd, 1) := by decide +kernel
theorem dX12_lift_65 : decode cX12_lift 65 = .ok (.iload 5, 2) := by decide +kernel
theorem dX12_lift_67 : decode cX12_lift 67 = .ok (.iastore, 1) := by decide +kernel
theorem dX12_lift_68 : decode cX12_lift 68 = .ok (.iinc 3 1, 3) := by decide +kernel
theorem dX12_lift_71 : decode cX12_lift 71 = .ok (.iinc 4 1, 3) := by decide +kernel
theorem dX12_lift_74 : decode cX12_lift 74 = .ok (.goto (-53), 3) := by decide +kernel
theorem dX12_lift_77 : decode cX12_lift 77 = .ok (.aload_n 0, 1) := by decide +kernel
theorem dX12_lift_78 : decode cX12_lift 78 = .ok (.getfield 89, 3) := by decide +kernel
theorem dX12_lift_81 : decode cX12_lift 81 = .ok (.iload_n 2, 1) := by decide +kernel
theorem dX12_lift_82 : decode cX12_lift 82 = .ok (.iload_n 3, 1) := by decide +kernel
theorem dX12_lift_83 : decode cX12_lift 83 = .ok (.iastore, 1) := by decide +kernel
theorem dX12_lift_84 : decode cX12_lift 84 = .ok (.return_, 1) := by decide +kernel
def wX12_lift_71 (k21 : Int32 → Int32 → Int32 → Int32 → km_S → Prop) (Q : km_S → Prop) (l1 : Int32) (l2 : Int32) (l3 : Int32) (l4 : Int32) (μ : km_S) : Prop := ∀ v1 : Int32, v1 = l4 + 1 → k21 l1 l2 l3 v1 μ
def wX12_lift_77 (Q : km_S → Prop) (l2 : Int32) (l3 : Int32) (μ : km_S) : Prop := vp_in l2 120 ∧ ∀ μ3, μ3 = km_sa μ 31 l2.toNatClampNeg l3 → Q μ3
def wX12_lift_21 (k77 : Int32 → Int32 → km_S → Prop) (Q : km_S → Prop) : Nat → Int32 → Int32 → Int32 → Int32 → km_S → Prop
  | 0, _, _, _, _, _ => False
  | n + 1, l1, l2, l3, l4, μ => vp_in l2 120 ∧ (((km_a μ 31 l2.toNatClampNeg) ≤ l4 → k77 l2 l3 μ) ∧
    (¬ ((km_a μ 31 l2.toNatClampNeg) ≤ l4) → vp_in ((20 * l2) + l4) 2400 ∧ ∀ v7, v7 = km_a μ 32 ((20 * l2) + l4).toNatClampNeg → ((¬ v7 = l1 → vp_in ((20 * l2) + l3) 2400 ∧ ∀ μ10, μ10 = km_sa μ 32 ((20 * l2) + l3).toNatClampNeg v7 → ∀ v11 : Int32, v11 = l3 + 1 → wX12_lift_71 (wX12_lift_21 k77 Q n) Q l1 l2 v11 l4 μ10) ∧
      (v7 = l1 → wX12_lift_71 (wX12_lift_21 k77 Q n) Q l1 l2 l3 l4 μ))))
def wX12_lift (l1 : Int32) (μ : km_S) (Q : km_S → Prop) : Prop := vp_in l1 400 ∧ vp_in l1 400 ∧ wX12_at0 (km_a μ 39 l1.toNatClampNeg) (km_a μ 40 l1.toNatClampNeg) μ fun r15 μ14 => ∃ j, wX12_lift_21 (wX12_lift_77 Q) Q j l1 r15 0 0 μ14
set_option maxRecDepth 100000 in
set_option maxHeartbeats 4000000 in
theorem tX12_lift_71 (l : Launch) (G : km_G) {p : Program} {e : Env} {s : State} {m : MethodId} {args : Array Value} {below : List Frame} {meth : Method} {c : Code} (F : CallFix p m c cX12_lift 6 s args kt_ RX12) (hr : meth.sig.returnType = none) (hlocks : meth.locks = false) (Q : km_S → Prop) (k21 : Int32 → Int32 → Int32 → Int32 → km_S → Prop) (hk21 : ∀ (l1 : Int32) (l2 : Int32) (l3 : Int32) (l4 : Int32) (μ : km_S) (H : Heap) (locs : List Loc) (ls : Array Slot), k21 l1 l2 l3 l4 μ → km_X G s H locs μ → lv_has ls 6 [(0, .ref (G.1 0)), (1, .int l1), (2, .int l2), (3, .int l3), (4, .int l4)] → W p l e { frames := 1, cells := 0, slots := 0, locals := 21 } s m args below meth c H locs 0 0 (MQ below (km_Qv G Q) args s 0 0 (km_A G)) (F0 m 21 ls [])) : ∀ (l1 : Int32) (l2 : Int32) (l3 : Int32) (l4 : Int32) (μ : km_S) (H : Heap) (locs : List Loc) (ls : Array Slot), wX12_lift_71 k21 Q l1 l2 l3 l4 μ → km_X G s H locs μ → lv_has ls 6 [(0, .ref (G.1 0)), (1, .int l1), (2, .int l2), (3, .int l3), (4, .int l4)] → W p l e { frames := 1, cells := 0, slots := 0, locals := 21 } s m args below meth c H locs 0 0 (MQ below (km_Qv G Q) args s 0 0 (km_A G)) (F0 m 71 ls []) := by
  intro l1 l2 l3 l4 μ H locs ls h C hl
  obtain ⟨v1, ev1⟩ : ∃ z9 : Int32, z9 = l4 + 1 := ⟨_, rfl⟩
  have h := h v1 ev1
  refine lv_iinc (v := v1) (lv' := [(4, .int v1), (0, .ref (G.1 0)), (1, .int l1), (2, .int l2), (3, .int l3)]) F.1 F.2.1 dX12_lift_71 hl (k := 4) rfl (by rw [ev1]; rfl) (by decide) rfl (fun ls hl => ?_)
  refine lv_goto (tgt := 21) F.1 F.2.1 dX12_lift_74 (by decide) ?_
  exact hk21 l1 l2 l3 v1 μ H locs ls h C (lv_sub hl [1, 2, 3, 4, 0] rfl)
set_option maxRecDepth 100000 in
set_option maxHeartbeats 4000000 in
theorem tX12_lift_77 (l : Launch) (G : km_G) {p : Program} {e : Env} {s : State} {m : MethodId} {args : Array Value} {below : List Frame} {meth : Method} {c : Code} (F : CallFix p m c cX12_lift 6 s args kt_ RX12) (hr : meth.sig.returnType = none) (hlocks : meth.locks = false) (Q : km_S → Prop) : ∀ (l2 : Int32) (l3 : Int32) (μ : km_S) (H : Heap) (locs : List Loc) (ls : Array Slot), wX12_lift_77 Q l2 l3 μ → km_X G s H locs μ → lv_has ls 6 [(0, .ref (G.1 0)), (2, .int l2), (3, .int l3)] → W p l e { frames := 1, cells := 0, slots := 0, locals := 21 } s m args below meth c H locs 0 0 (MQ below (km_Qv G Q) args s 0 0 (km_A G)) (F0 m 77 ls []) := by
  intro l2 l3 μ H locs ls h C hl
  refine lv_aload_n F.1 F.2.1 dX12_lift_77 rfl (lv_at hl 0 rfl) ?_
  refine kg_holds F C dX12_lift_78 ?_
  refine lv_iload_n F.1 F.2.1 dX12_lift_81 rfl (lv_at hl 1 rfl) ?_
  refine lv_iload_n F.1 F.2.1 dX12_lift_82 rfl (lv_at hl 2 rfl) ?_
  obtain ⟨hn2, h⟩ := h
  refine kq_holds F C hn2 dX12_lift_83 (fun H locs C => ?_)
  generalize eμ3 : km_sa μ 31 l2.toNatClampNeg l3 = μ3 at C
  have h := h μ3 eμ3.symm
  exact km_vret F C hr hlocks h dX12_lift_84
set_option maxRecDepth 100000 in
set_option maxHeartbeats 4000000 in
theorem tX12_lift_21 (l : Launch) (G : km_G) {p : Program} {e : Env} {s : State} {m : MethodId} {args : Array Value} {below : List Frame} {meth : Method} {c : Code} (F : CallFix p m c cX12_lift 6 s args kt_ RX12) (hr : meth.sig.returnType = none) (hlocks : meth.locks = false) (Q : km_S → Prop) (k77 : Int32 → Int32 → km_S → Prop) (hk77 : ∀ (l2 : Int32) (l3 : Int32) (μ : km_S) (H : Heap) (locs : List Loc) (ls : Array Slot), k77 l2 l3 μ → km_X G s H locs μ → lv_has ls 6 [(0, .ref (G.1 0)), (2, .int l2), (3, .int l3)] → W p l e { frames := 1, cells := 0, slots := 0, locals := 21 } s m args below meth c H locs 0 0 (MQ below (km_Qv G Q) args s 0 0 (km_A G)) (F0 m 77 ls [])) : ∀ (n : Nat) (l1 : Int32) (l2 : Int32) (l3 : Int32) (l4 : Int32) (μ : km_S) (H : Heap) (locs : List Loc) (ls : Array Slot), wX12_lift_21 k77 Q n l1 l2 l3 l4 μ → km_X G s H locs μ → lv_has ls 6 [(0, .ref (G.1 0)), (1, .int l1), (2, .int l2), (3, .int l3), (4, .int l4)] → W p l e { frames := 1, cells := 0, slots := 0, locals := 21 } s m args below meth c H locs 0 0 (MQ below (km_Qv G Q) args s 0 0 (km_A G)) (F0 m 21 ls []) := by
  intro n
  induction n with
  | zero => intro l1 l2 l3 l4 μ H locs ls h; exact h.elim
  | succ n ih =>
    intro l1 l2 l3 l4 μ H locs ls h C hl
    refine lv_iload F.1 F.2.1 dX12_lift_21 (lv_at hl 4 rfl) ?_
    refine lv_aload_n F.1 F.2.1 dX12_lift_23 rfl (lv_at hl 0 rfl) ?_
    refine kg_holds F C dX12_lift_24 ?_
    refine lv_iload_n F.1 F.2.1 dX12_lift_27 rfl (lv_at hl 2 rfl) ?_
    obtain ⟨hn4, h⟩ := h
    refine kl_holds F C hn4 dX12_lift_28 ?_
    refine lv_icmp_ge (tgt := 77) F.1 F.2.1 dX12_lift_29 (by decide) (fun c5 => ?_) (fun c5 => ?_)
    · have h := h.1 c5
      exact hk77 l2 l3 μ H locs ls h C (lv_sub hl [0, 2, 3] rfl)
    · have h := h.2 c5
      refine lv_aload_n F.1 F.2.1 dX12_lift_32 rfl (lv_at hl 0 rfl) ?_
      refine kg_lie F C dX12_lift_33 ?_
      refine lv_bipush (v := 20) F.1 F.2.1 dX12_lift_36 (by decide) ?_
      refine lv_iload_n F.1 F.2.1 dX12_lift_38 rfl (lv_at hl 2 rfl) ?_
      refine lv_imul (x := 20) (y := l2) F.1 F.2.1 dX12_lift_39 ?_
      refine lv_iload F.1 F.2.1 dX12_lift_40 (lv_at hl 4 rfl) ?_
      refine lv_iadd (x := 20 * l2) (y := l4) F.1 F.2.1 dX12_lift_42 ?_
      obtain ⟨hn6, h⟩ := h
      refine kl_lie F C hn6 dX12_lift_43 ?_
      refine lv_topi (fun v7 ev7 => ?_)
      have h := h v7 ev7
      refine lv_istore (lv' := [(5, .int v7), (0, .ref (G.1 0)), (1, .int l1), (2, .int l2), (3, .int l3), (4, .int l4)]) F.1 F.2.1 dX12_lift_44 hl (by decide) rfl (fun ls hl => ?_)
      refine lv_iload F.1 F.2.1 dX12_lift_46 (lv_at hl 0 rfl) ?_
      refine lv_iload_n F.1 F.2.1 dX12_lift_48 rfl (lv_at hl 2 rfl) ?_
      refine lv_icmp_ne (tgt := 55) F.1 F.2.1 dX12_lift_49 (by decide) (fun c8 => ?_) (fun c8 => ?_)
      · have h := h.1 c8
        refine lv_aload_n F.1 F.2.1 dX12_lift_55 rfl (lv_at hl 1 rfl) ?_
        refine kg_lie F C dX12_lift_56 ?_
        refine lv_bipush (v := 20) F.1 F.2.1 dX12_lift_59 (by decide) ?_
        refine lv_iload_n F.1 F.2.1 dX12_lift_61 rfl (lv_at hl 3 rfl) ?_
        refine lv_imul (x := 20) (y := l2) F.1 F.2.1 dX12_lift_62 ?_
        refine lv_iload_n F.1 F.2.1 dX12_lift_63 rfl (lv_at hl 4 rfl) ?_
        refine lv_iadd (x := 20 * l2) (y := l3) F.1 F.2.1 dX12_lift_64 ?_
        refine lv_iload F.1 F.2.1 dX12_lift_65 (lv_at hl 0 rfl) ?_
        obtain ⟨hn9, h⟩ := h
        refine kq_lie F C hn9 dX12_lift_67 (fun H locs C => ?_)
        generalize eμ10 : km_sa μ 32 ((20 * l2) + l3).toNatClampNeg v7 = μ10 at C
        have h := h μ10 eμ10.symm
        obtain ⟨v11, ev11⟩ : ∃ z9 : Int32, z9 = l3 + 1 := ⟨_, rfl⟩
        have h := h v11 ev11
        refine lv_iinc (v := v11) (lv' := [(3, .int v11), (5, .int v7), (0, .ref (G.1 0)), (1, .int l1), (2, .int l2), (4, .int l4)]) F.1 F.2.1 dX12_lift_68 hl (k := 4) rfl (by rw [ev11]; rfl) (by decide) rfl (fun ls hl => ?_)
        exact tX12_lift_71 l G F hr hlocks Q (wX12_lift_21 k77 Q n) (fun l1 l2 l3 l4 μ9 H locs ls h C hl => ih l1 l2 l3 l4 μ9 H locs ls h C hl) l1 l2 v11 l4 μ10 H locs ls h C (lv_sub hl [2, 3, 4, 0, 5] rfl)
      · have h := h.2 c8
        refine lv_goto (tgt := 71) F.1 F.2.1 dX12_lift_52 (by decide) ?_
        exact tX12_lift_71 l G F hr hlocks Q (wX12_lift_21 k77 Q n) (fun l1 l2 l3 l4 μ9 H locs ls h C hl => ih l1 l2 l3 l4 μ9 H locs ls h C hl) l1 l2 l3 l4 μ H locs ls h C (lv_sub hl [1, 2, 3, 4, 5] rfl)
set_option maxRecDepth 100000 in
set_option maxHeartbeats 4000000 in
theorem hc_X12_lift (l : Launch) (G : km_G) (l1 : Int32) (μ : km_S) (Q : km_S → Prop) (h : wX12_lift l1 μ Q) : km_M l G yX12_lift cX12_lift 6 none (1) (21) [.ref (G.1 0), .int l1] μ (km_Qv G Q) := by
  refine km_enter (by decide) rfl (Nat.le_of_ble_eq_true rfl) ?_
  intro p e s m below meth c ls F hr hlocks C hl
  have hl : lv_has ls 6 [(0, .ref (G.1 0)), (1, .int l1)] := hl
  obtain ⟨H, eH⟩ : ∃ z9, z9 = s.heap := ⟨_, rfl⟩
  obtain ⟨locs, eL⟩ : ∃ z9 : List Loc, z9 = [] := ⟨_, rfl⟩
  rw [← eH, ← eL] at C
  rw [← eH, ← eL]
  refine lv_aload_n F.1 F.2.1 dX12_lift_0 rfl (lv_at hl 0 rfl) ?_
  refine kg_reachOf F C dX12_lift_1 ?_
  refine lv_iload_n F.1 F.2.1 dX12_lift_4 rfl (lv_at hl 1 rfl) ?_
  obtain ⟨hn12, h⟩ := h
  refine kl_reachOf F C hn12 dX12_lift_5 ?_
  refine lv_aload_n F.1 F.2.1 dX12_lift_6 rfl (lv_at hl 0 rfl) ?_
  refine kg_cellOf F C dX12_lift_7 ?_
  refine lv_iload_n F.1 F.2.1 dX12_lift_10 rfl (lv_at hl 1 rfl) ?_
  obtain ⟨hn13, h⟩ := h
  refine kl_cellOf F C hn13 dX12_lift_11 ?_
  refine kc_X12_at0 F C h (Nat.le_of_ble_eq_true rfl) (Nat.le_of_ble_eq_true rfl) hl.1 (by simp [Value.category]) dX12_lift_12 (fun r15 μ14 H locs h C => ?_)
  refine lv_istore_n (lv' := [(2, .int r15), (0, .ref (G.1 0)), (1, .int l1)]) F.1 F.2.1 dX12_lift_15 rfl hl (by decide) rfl (fun ls hl => ?_)
  refine lv_iconst (v := 0) F.1 F.2.1 dX12_lift_16 (by decide) ?_
  refine lv_istore_n (lv' := [(3, .int 0), (2, .int r15), (0, .ref (G.1 0)), (1, .int l1)]) F.1 F.2.1 dX12_lift_17 rfl hl (by decide) rfl (fun ls hl => ?_)
  refine lv_iconst (v := 0) F.1 F.2.1 dX12_lift_18 (by decide) ?_
  refine lv_istore (lv' := [(4, .int 0), (3, .int 0), (2, .int r15), (0, .ref (G.1 0)), (1, .int l1)]) F.1 F.2.1 dX12_lift_19 hl (by decide) rfl (fun ls hl => ?_)
  obtain ⟨n16, h⟩ := h
  exact tX12_lift_21 l G F hr hlocks Q (wX12_lift_77 Q) (tX12_lift_77 l G F hr hlocks Q) n16 l1 r15 0 0 μ14 H locs ls h C (lv_sub hl [3, 4, 2, 1, 0] rfl)
section
variable {p : Program} {l : Launch} {e : Env} {R : Room} {s : State} {m : MethodId} {args : Array Value} {below : List Frame} {meth : Method} {c : Code} {H : Heap} {locs : List Loc} {Q : State → Prop}
variable {cc : ByteArray} {pc nL : Nat} {ls : Array Slot} {rest : List Value} {G : km_G} {μ : km_S}
theorem kc_X12_lift (F : CallFix p m c cc nL s args kt_ RX12) (C : km_X G s H locs μ) {P : km_S → Prop} {l1 : Int32} (h : wX12_lift l1 μ P) (h1 : (1) + 1 ≤ R.frames) (h2 : 8 + (6 + 11) + (21) ≤ R.locals) (hsz : ls.size = nL) (hW : (rest.map fun v => v.category).sum ≤ 8) (hdg : decode cc pc = .ok (.invokevirtual 344, 3)) (kk : ∀ (μ' : km_S) (H1 : Heap) (locs1 : List Loc), P μ' → km_X G s H1 locs1 μ' → W p l e R s m args below meth c H1 locs1 0 0 Q (F0 m (pc + 3) ls rest)) : W p l e R s m args below meth c H locs 0 0 Q (F0 m pc ls (.int l1 :: .ref (G.1 0) :: rest)) :=
  km_cVv (n := 1) (As := [.int l1]) F C (hc_X12_lift l G l1 μ P h) (kt_V tw_201 tw_202 tw_203 tw_151 tw_204) (by decide +kernel) ⟨h1, h2⟩ rfl hsz hW hdg kk
end
theorem dX12_order_0 : decode cX12_order 0 = .ok (.aload_n 0, 1) := by decide +kernel
theorem dX12_order_1 : decode cX12_order 1 = .ok (.iconst 0, 1) := by decide +kernel
theorem dX12_order_2 : decode cX12_order 2 = .ok (.putfield 173, 3) := by decide +kernel
theorem dX12_order_5 : decode cX12_order 5 = .ok (.aload_n 0, 1) := by decide +kernel
theorem dX12_order_6 : decode cX12_order 6 = .ok (.iload_n 1, 1) := by decide +kernel
theorem dX12_order_7 : decode cX12_order 7 = .ok (.invokevirtual 179, 3) := by decide +kernel
theorem dX12_order_10 : decode cX12_order 10 = .ok (.ifCond .ne 8, 3) := by decide +kernel
theorem dX12_order_13 : decode cX12_order 13 = .ok (.aload_n 0, 1) := by decide +kernel
theorem dX12_order_14 : decode cX12_order 14 = .ok (.invokevirtual 183, 3) := by decide +kernel
theorem dX12_order_17 : decode cX12_order 17 = .ok (.ireturn, 1) := by decide +kernel
theorem dX12_order_18 : decode cX12_order 18 = .ok (.aload_n 0, 1) := by decide +kernel
theorem dX12_order_19 : decode cX12_order 19 = .ok (.getfield 62, 3) := by decide +kernel
theorem dX12_order_22 : decode cX12_order 22 = .ok (.iload_n 1, 1) := by decide +kernel
theorem dX12_order_23 : decode cX12_order 23 = .ok (.baload, 1) := by decide +kernel
theorem dX12_order_24 : decode cX12_order 24 = .ok (.ifCond .eq 46, 3) := by decide +kernel
theorem dX12_order_27 : decode cX12_order 27 = .ok (.iload_n 2, 1) := by decide +kernel
theorem dX12_order_28 : decode cX12_order 28 = .ok (.ifCond .lt 42, 3) := by decide +kernel
theorem dX12_order_31 : decode cX12_order 31 = .ok (.iload_n 2, 1) := by decide +kernel
theorem dX12_order_32 : decode cX12_order 32 = .ok (.bipush 15, 2) := by decide +kernel
theorem dX12_order_34 : decode cX12_order 34 = .ok (.if_icmp .gt 36, 3) := by decide +kernel
theorem dX12_order_37 : decode cX12_order 37 = .ok (.iload_n 3, 1) := by decide +kernel
theorem dX12_order_38 : decode cX12_order 38 = .ok (.iconst 1, 1) := by decide +kernel
theorem dX12_order_39 : decode cX12_order 39 = .ok (.if_icmp .lt 31, 3) := by decide +kernel
theorem dX12_order_42 : decode cX12_order 42 = .ok (.iload_n 3, 1) := by decide +kernel
theorem dX12_order_43 : decode cX12_order 43 = .ok (.bipush 9, 2) := by decide +kernel
theorem dX12_order_45 : decode cX12_order 45 = .ok (.if_icmp .gt 25, 3) := by decide +kernel
theorem dX12_order_48 : decode cX12_order 48 = .ok (.iload 4, 2) := by decide +kernel
theorem dX12_order_50 : decode cX12_order 50 = .ok (.iconst 1, 1) := by decide +kernel
theorem dX12_order_51 : decode cX12_order 51 = .ok (.if_icmp .lt 19, 3) := by decide +kernel
theorem dX12_order_54 : decode cX12_order 54 = .ok (.iload 4, 2) := by decide +kernel
theorem dX12_order_56 : decode cX12_order 56 = .ok (.bipush 100, 2) := by decide +kernel
theorem dX12_order_58 : decode cX12_order 58 = .ok (.if_icmp .gt 12, 3) := by decide +kernel
theorem dX12_order_61 : decode cX12_order 61 = .ok (.aload_n 0, 1) := by decide +kernel
theorem dX12_order_62 : decode cX12_order 62 = .ok (.getfield 354, 3) := by decide +kernel
theorem dX12_order_65 : decode cX12_order 65 = .ok (.bipush 60, 2) := by decide +kernel
theorem dX12_order_67 : decode cX12_order 67 = .ok (.if_icmp .ne 5, 3) := by decide +kernel
theorem dX12_order_70 : decode cX12_order 70 = .ok (.iconst (-1), 1) := by decide +kernel
theorem dX12_order_71 : decode cX12_order 71 = .ok (.ireturn, 1) := by decide +kernel
theorem dX12_order_72 : decode cX12_order 72 = .ok (.aload_n 0, 1) := by decide +kernel
theorem dX12_order_73 : decode cX12_order 73 = .ok (.getfield 133, 3) := by decide +kernel
theorem dX12_order_76 : decode cX12_order 76 = .ok (.aload_n 0, 1) := by decide +kernel
theorem dX12_order_77 : decode cX12_order 77 = .ok (.getfield 354, 3) := by decide +kernel
theorem dX12_order_80 : decode cX12_order 80 = .ok (.iload_n 1, 1) := by decide +kernel
theorem dX12_order_81 : decode cX12_order 81 = .ok (.iastore, 1) := by decide +kernel
theorem dX12_order_82 : decode cX12_order 82 = .ok (.aload_n 0, 1) := by decide +kernel
theorem dX12_order_83 : decode cX12_order 83 = .ok (.getfield 136, 3) := by decide +kernel
theorem dX12_order_86 : decode cX12_order 86 = .ok (.aload_n 0, 1) := by decide +kernel
theorem dX12_order_87 : decode cX12_order 87 = .ok (.getfield 354, 3) := by decide +kernel
theorem dX12_order_90 : decode cX12_order 90 = .ok (.iload_n 2, 1) := by decide +kernel
theorem dX12_order_91 : decode cX12_order 91 = .ok (.iastore, 1) := by decide +kernel
theorem dX12_order_92 : decode cX12_order 92 = .ok (.aload_n 0, 1) := by decide +kernel
theorem dX12_order_93 : decode cX12_order 93 = .ok (.getfield 139, 3) := by decide +kernel
theorem dX12_order_96 : decode cX12_order 96 = .ok (.aload_n 0, 1) := by decide +kernel
theorem dX12_order_97 : decode cX12_order 97 = .ok (.getfield 354, 3) := by decide +kernel
theorem dX12_order_100 : decode cX12_order 100 = .ok (.iload_n 3, 1) := by decide +kernel
theorem dX12_order_101 : decode cX12_order 101 = .ok (.iastore, 1) := by decide +kernel
theorem dX12_order_102 : decode cX12_order 102 = .ok (.aload_n 0, 1) := by decide +kernel
theorem dX12_order_103 : decode cX12_order 103 = .ok (.getfield 142, 3) := by decide +kernel
theorem dX12_order_106 : decode cX12_order 106 = .ok (.aload_n 0, 1) := by decide +kernel
theorem dX12_order_107 : decode cX12_order 107 = .ok (.getfield 354, 3) := by decide +kernel
theorem dX12_order_110 : decode cX12_order 110 = .ok (.iload 4, 2) := by decide +kernel
theorem dX12_order_112 : decode cX12_order 112 = .ok (.iastore, 1) := by decide +kernel
theorem dX12_order_113 : decode cX12_order 113 = .ok (.aload_n 0, 1) := by decide +kernel
theorem dX12_order_114 : decode cX12_order 114 = .ok (.dup, 1) := by decide +kernel
theorem dX12_order_115 : decode cX12_order 115 = .ok (.getfield 354, 3) := by decide +kernel
theorem dX12_order_118 : decode cX12_order 118 = .ok (.iconst 1, 1) := by decide +kernel
theorem dX12_order_119 : decode cX12_order 119 = .ok (.iadd, 1) := by decide +kernel
theorem dX12_order_120 : decode cX12_order 120 = .ok (.putfield 354, 3) := by decide +kernel
theorem dX12_order_123 : decode cX12_order 123 = .ok (.aload_n 0, 1) := by decide +kernel
theorem dX12_order_124 : decode cX12_order 124 = .ok (.getfield 354, 3) := by decide +kernel
theorem dX12_order_127 : decode cX12_order 127 = .ok (.iconst 1, 1) := by decide +kernel
theorem dX12_order_128 : decode cX12_order 128 = .ok (.isub, 1) := by decide +kernel
theorem dX12_order_129 : decode cX12_order 129 = .ok (.ireturn, 1) := by decide +kernel
def wX12_order (l1 : Int32) (l2 : Int32) (l3 : Int32) (l4 : Int32) (μ : km_S) (Q : Int32 → km_S → Prop) : Prop := ∀ μ1, μ1 = km_si μ 1 0 → wX12_isReach l1 μ1 fun r3 μ2 => ((¬ r3 = 0 → vp_in l1 10 ∧ (((km_a μ2 22 l1.toNatClampNeg) = 0 → Q (-1) μ2) ∧
    (¬ ((km_a μ2 22 l1.toNatClampNeg) = 0) → ((l2 < 0 → Q (-1) μ2) ∧
      (¬ (l2 < 0) → ((15 < l2 → Q (-1) μ2) ∧
        (¬ (15 < l2) → ((l3 < 1 → Q (-1) μ2) ∧
          (¬ (l3 < 1) → ((9 < l3 → Q (-1) μ2) ∧
            (¬ (9 < l3) → ((l4 < 1 → Q (-1) μ2) ∧
              (¬ (l4 < 1) → ((100 < l4 → Q (-1) μ2) ∧
                (¬ (100 < l4) → ((¬ (km_i μ2 8) = 60 → vp_in (km_i μ2 8) 60 ∧ ∀ μ15, μ15 = km_sa μ2 47 (km_i μ2 8).toNatClampNeg l1 → vp_in (km_i μ15 8) 60 ∧ ∀ μ17, μ17 = km_sa μ15 48 (km_i μ15 8).toNatClampNeg l2 → vp_in (km_i μ17 8) 60 ∧ ∀ μ19, μ19 = km_sa μ17 49 (km_i μ17 8).toNatClampNeg l3 → vp_in (km_i μ19 8) 60 ∧ ∀ μ21, μ21 = km_sa μ19 50 (km_i μ19 8).toNatClampNeg l4 → ∀ μ22, μ22 = km_si μ21 8 ((km_i μ21 8) + 1) → Q ((km_i μ22 8) - 1) μ22) ∧
                  ((km_i μ2 8) = 60 → Q (-1) μ2))))))))))))))))) ∧
  (r3 = 0 → wX12_fail μ2 fun r24 μ23 => Q r24 μ23))
set_option maxRecDepth 100000 in
set_option maxHeartbeats 4000000 in
theorem hc_X12_order (l : Launch) (G : km_G) (l1 : Int32) (l2 : Int32) (l3 : Int32) (l4 : Int32) (μ : km_S) (Q : Int32 → km_S → Prop) (h : wX12_order l1 l2 l3 l4 μ Q) : km_M l G yX12_order cX12_order 5 (some .int) (1) (21) [.ref (G.1 0), .int l1, .int l2, .int l3, .int l4] μ (km_Qi G Q) := by
  refine km_enter (by decide) rfl (Nat.le_of_ble_eq_true rfl) ?_
  intro p e s m below meth c ls F hr hlocks C hl
  have hl : lv_has ls 5 [(0, .ref (G.1 0)), (1, .int l1), (2, .int l2), (3, .int l3), (4, .int l4)] := hl
  obtain ⟨H, eH⟩ : ∃ z9, z9 = s.heap := ⟨_, rfl⟩
  obtain ⟨locs, eL⟩ : ∃ z9 : List Loc, z9 = [] := ⟨_, rfl⟩
  rw [← eH, ← eL] at C
  rw [← eH, ← eL]
  refine lv_aload_n F.1 F.2.1 dX12_order_0 rfl (lv_at hl 0 rfl) ?_
  refine lv_iconst (v := 0) F.1 F.2.1 dX12_order_1 (by decide) ?_
  refine kp_code F C dX12_order_2 (fun H locs C => ?_)
  generalize eμ1 : km_si μ 1 0 = μ1 at C
  have h := h μ1 eμ1.symm
  refine lv_aload_n F.1 F.2.1 dX12_order_5 rfl (lv_at hl 0 rfl) ?_
  refine lv_iload_n F.1 F.2.1 dX12_order_6 rfl (lv_at hl 1 rfl) ?_
  refine kc_X12_isReach F C h (Nat.le_of_ble_eq_true rfl) (Nat.le_of_ble_eq_true rfl) hl.1 (by simp [Value.category]) dX12_order_7 (fun r3 μ2 H locs h C => ?_)
  refine lv_if_ne (tgt := 18) F.1 F.2.1 dX12_order_10 (by decide) (fun c4 => ?_) (fun c4 => ?_)
  · have h := h.1 c4
    refine lv_aload_n F.1 F.2.1 dX12_order_18 rfl (lv_at hl 0 rfl) ?_
    refine kg_hasBoom F C dX12_order_19 ?_
    refine lv_iload_n F.1 F.2.1 dX12_order_22 rfl (lv_at hl 1 rfl) ?_
    obtain ⟨hn5, h⟩ := h
    refine kl_hasBoom F C hn5 dX12_order_23 ?_
    refine lv_if_eq (tgt := 70) F.1 F.2.1 dX12_order_24 (by decide) (fun c6 => ?_) (fun c6 => ?_)
    · have h := h.1 c6
      refine lv_iconst (v := (-1)) F.1 F.2.1 dX12_order_70 (by decide) ?_
      exact km_iret F C hr hlocks h dX12_order_71
    · have h := h.2 c6
      refine lv_iload_n F.1 F.2.1 dX12_order_27 rfl (lv_at hl 2 rfl) ?_
      refine lv_if_lt (tgt := 70) F.1 F.2.1 dX12_order_28 (by decide) (fun c7 => ?_) (fun c7 => ?_)
      · have h := h.1 c7
        refine lv_iconst (v := (-1)) F.1 F.2.1 dX12_order_70 (by decide) ?_
        exact km_iret F C hr hlocks h dX12_order_71
      · have h := h.2 c7
        refine lv_iload_n F.1 F.2.1 dX12_order_31 rfl (lv_at hl 2 rfl) ?_
        refine lv_bipush (v := 15) F.1 F.2.1 dX12_order_32 (by decide) ?_
        refine lv_icmp_gt (tgt := 70) F.1 F.2.1 dX12_order_34 (by decide) (fun c8 => ?_) (fun c8 => ?_)
        · have h := h.1 c8
          refine lv_iconst (v := (-1)) F.1 F.2.1 dX12_order_70 (by decide) ?_
          exact km_iret F C hr hlocks h dX12_order_71
        · have h := h.2 c8
          refine lv_iload_n F.1 F.2.1 dX12_order_37 rfl (lv_at hl 3 rfl) ?_
          refine lv_iconst (v := 1) F.1 F.2.1 dX12_order_38 (by decide) ?_
          refine lv_icmp_lt (tgt := 70) F.1 F.2.1 dX12_order_39 (by decide) (fun c9 => ?_) (fun c9 => ?_)
          · have h := h.1 c9
            refine lv_iconst (v := (-1)) F.1 F.2.1 dX12_order_70 (by decide) ?_
            exact km_iret F C hr hlocks h dX12_order_71
          · have h := h.2 c9
            refine lv_iload_n F.1 F.2.1 dX12_order_42 rfl (lv_at hl 3 rfl) ?_
            refine lv_bipush (v := 9) F.1 F.2.1 dX12_order_43 (by decide) ?_
            refine lv_icmp_gt (tgt := 70) F.1 F.2.1 dX12_order_45 (by decide) (fun c10 => ?_) (fun c10 => ?_)
            · have h := h.1 c10
              refine lv_iconst (v := (-1)) F.1 F.2.1 dX12_order_70 (by decide) ?_
              exact km_iret F C hr hlocks h dX12_order_71
            · have h := h.2 c10
              refine lv_iload F.1 F.2.1 dX12_order_48 (lv_at hl 4 rfl) ?_
              refine lv_iconst (v := 1) F.1 F.2.1 dX12_order_50 (by decide) ?_
              refine lv_icmp_lt (tgt := 70) F.1 F.2.1 dX12_order_51 (by decide) (fun c11 => ?_) (fun c11 => ?_)
              · have h := h.1 c11
                refine lv_iconst (v := (-1)) F.1 F.2.1 dX12_order_70 (by decide) ?_
                exact km_iret F C hr hlocks h dX12_order_71
              · have h := h.2 c11
                refine lv_iload F.1 F.2.1 dX12_order_54 (lv_at hl 4 rfl) ?_
                refine lv_bipush (v := 100) F.1 F.2.1 dX12_order_56 (by decide) ?_
                refine lv_icmp_gt (tgt := 70) F.1 F.2.1 dX12_order_58 (by decide) (fun c12 => ?_) (fun c12 => ?_)
                · have h := h.1 c12
                  refine lv_iconst (v := (-1)) F.1 F.2.1 dX12_order_70 (by decide) ?_
                  exact km_iret F C hr hlocks h dX12_order_71
                · have h := h.2 c12
                  refine lv_aload_n F.1 F.2.1 dX12_order_61 rfl (lv_at hl 0 rfl) ?_
                  refine kg_orders F C dX12_order_62 ?_
                  refine lv_bipush (v := 60) F.1 F.2.1 dX12_order_65 (by decide) ?_
                  refine lv_icmp_ne (tgt := 72) F.1 F.2.1 dX12_order_67 (by decide) (fun c13 => ?_) (fun c13 => ?_)
                  · have h := h.1 c13
                    refine lv_aload_n F.1 F.2.1 dX12_order_72 rfl (lv_at hl 0 rfl) ?_
                    refine kg_orderReach F C dX12_order_73 ?_
                    refine lv_aload_n F.1 F.2.1 dX12_order_76 rfl (lv_at hl 0 rfl) ?_
                    refine kg_orders F C dX12_order_77 ?_
                    refine lv_iload_n F.1 F.2.1 dX12_order_80 rfl (lv_at hl 1 rfl) ?_
                    obtain ⟨hn14, h⟩ := h
                    refine kq_orderReach F C hn14 dX12_order_81 (fun H locs C => ?_)
                    generalize eμ15 : km_sa μ2 47 (km_i μ2 8).toNatClampNeg l1 = μ15 at C
                    have h := h μ15 eμ15.symm
                    refine lv_aload_n F.1 F.2.1 dX12_order_82 rfl (lv_at hl 0 rfl) ?_
                    refine kg_orderMark F C dX12_order_83 ?_
                    refine lv_aload_n F.1 F.2.1 dX12_order_86 rfl (lv_at hl 0 rfl) ?_
                    refine kg_orders F C dX12_order_87 ?_
                    refine lv_iload_n F.1 F.2.1 dX12_order_90 rfl (lv_at hl 2 rfl) ?_
                    obtain ⟨hn16, h⟩ := h
                    refine kq_orderMark F C hn16 dX12_order_91 (fun H locs C => ?_)
                    generalize eμ17 : km_sa μ15 48 (km_i μ15 8).toNatClampNeg l2 = μ17 at C
                    have h := h μ17 eμ17.symm
                    refine lv_aload_n F.1 F.2.1 dX12_order_92 rfl (lv_at hl 0 rfl) ?_
                    refine kg_orderSize F C dX12_order_93 ?_
                    refine lv_aload_n F.1 F.2.1 dX12_order_96 rfl (lv_at hl 0 rfl) ?_
                    refine kg_orders F C dX12_order_97 ?_
                    refine lv_iload_n F.1 F.2.1 dX12_order_100 rfl (lv_at hl 3 rfl) ?_
                    obtain ⟨hn18, h⟩ := h
                    refine kq_orderSize F C hn18 dX12_order_101 (fun H locs C => ?_)
                    generalize eμ19 : km_sa μ17 49 (km_i μ17 8).toNatClampNeg l3 = μ19 at C
                    have h := h μ19 eμ19.symm
                    refine lv_aload_n F.1 F.2.1 dX12_order_102 rfl (lv_at hl 0 rfl) ?_
                    refine kg_wants F C dX12_order_103 ?_
                    refine lv_aload_n F.1 F.2.1 dX12_order_106 rfl (lv_at hl 0 rfl) ?_
                    refine kg_orders F C dX12_order_107 ?_
                    refine lv_iload F.1 F.2.1 dX12_order_110 (lv_at hl 4 rfl) ?_
                    obtain ⟨hn20, h⟩ := h
                    refine kq_wants F C hn20 dX12_order_112 (fun H locs C => ?_)
                    generalize eμ21 : km_sa μ19 50 (km_i μ19 8).toNatClampNeg l4 = μ21 at C
                    have h := h μ21 eμ21.symm
                    refine lv_aload_n F.1 F.2.1 dX12_order_113 rfl (lv_at hl 0 rfl) ?_
                    refine lv_dup F.1 F.2.1 dX12_order_114 rfl ?_
                    refine kg_orders F C dX12_order_115 ?_
                    refine lv_iconst (v := 1) F.1 F.2.1 dX12_order_118 (by decide) ?_
                    refine lv_iadd (x := km_i μ21 8) (y := 1) F.1 F.2.1 dX12_order_119 ?_
                    refine kp_orders F C dX12_order_120 (fun H locs C => ?_)
                    generalize eμ22 : km_si μ21 8 ((km_i μ21 8) + 1) = μ22 at C
                    have h := h μ22 eμ22.symm
                    refine lv_aload_n F.1 F.2.1 dX12_order_123 rfl (lv_at hl 0 rfl) ?_
                    refine kg_orders F C dX12_order_124 ?_
                    refine lv_iconst (v := 1) F.1 F.2.1 dX12_order_127 (by decide) ?_
                    refine lv_isub (x := km_i μ22 8) (y := 1) F.1 F.2.1 dX12_order_128 ?_
                    exact km_iret F C hr hlocks h dX12_order_129
                  · have h := h.2 c13
                    refine lv_iconst (v := (-1)) F.1 F.2.1 dX12_order_70 (by decide) ?_
                    exact km_iret F C hr hlocks h dX12_order_71
  · have h := h.2 c4
    refine lv_aload_n F.1 F.2.1 dX12_order_13 rfl (lv_at hl 0 rfl) ?_
    refine kc_X12_fail F C h (Nat.le_of_ble_eq_true rfl) (Nat.le_of_ble_eq_true rfl) hl.1 (by simp [Value.category]) dX12_order_14 (fun r24 μ23 H locs h C => ?_)
    exact km_iret F C hr hlocks h dX12_order_17
section
variable {p : Program} {l : Launch} {e : Env} {R : Room} {s : State} {m : MethodId} {args : Array Value} {below : List Frame} {meth : Method} {c : Code} {H : Heap} {locs : List Loc} {Q : State → Prop}
variable {cc : ByteArray} {pc nL : Nat} {ls : Array Slot} {rest : List Value} {G : km_G} {μ : km_S}
end
theorem dX12_wants_0 : decode cX12_wants 0 = .ok (.aload_n 0, 1) := by decide +kernel
theorem dX12_wants_1 : decode cX12_wants 1 = .ok (.iconst 0, 1) := by decide +kernel
theorem dX12_wants_2 : decode cX12_wants 2 = .ok (.putfield 173, 3) := by decide +kernel
theorem dX12_wants_5 : decode cX12_wants 5 = .ok (.iload_n 1, 1) := by decide +kernel
theorem dX12_wants_6 : decode cX12_wants 6 = .ok (.ifCond .lt 11, 3) := by decide +kernel
theorem dX12_wants_9 : decode cX12_wants 9 = .ok (.iload_n 1, 1) := by decide +kernel
theorem dX12_wants_10 : decode cX12_wants 10 = .ok (.aload_n 0, 1) := by decide +kernel
theorem dX12_wants_11 : decode cX12_wants 11 = .ok (.getfield 354, 3) := by decide +kernel
theorem dX12_wants_14 : decode cX12_wants 14 = .ok (.if_icmp .lt 10, 3) := by decide +kernel
theorem dX12_wants_17 : decode cX12_wants 17 = .ok (.aload_n 0, 1) := by decide +kernel
theorem dX12_wants_18 : decode cX12_wants 18 = .ok (.invokevirtual 183, 3) := by decide +kernel
theorem dX12_wants_21 : decode cX12_wants 21 = .ok (.goto 9, 3) := by decide +kernel
theorem dX12_wants_24 : decode cX12_wants 24 = .ok (.aload_n 0, 1) := by decide +kernel
theorem dX12_wants_25 : decode cX12_wants 25 = .ok (.getfield 142, 3) := by decide +kernel
theorem dX12_wants_28 : decode cX12_wants 28 = .ok (.iload_n 1, 1) := by decide +kernel
theorem dX12_wants_29 : decode cX12_wants 29 = .ok (.iaload, 1) := by decide +kernel
theorem dX12_wants_30 : decode cX12_wants 30 = .ok (.ireturn, 1) := by decide +kernel
def wX12_wants_17 (Q : Int32 → km_S → Prop) (μ : km_S) : Prop := wX12_fail μ fun r2 μ1 => Q r2 μ1
def wX12_wants (l1 : Int32) (μ : km_S) (Q : Int32 → km_S → Prop) : Prop := ∀ μ3, μ3 = km_si μ 1 0 → ((l1 < 0 → wX12_wants_17 Q μ3) ∧
  (¬ (l1 < 0) → ((l1 < (km_i μ3 8) → vp_in l1 60 ∧ Q (km_a μ3 50 l1.toNatClampNeg) μ3) ∧
    (¬ (l1 < (km_i μ3 8)) → wX12_wants_17 Q μ3))))
set_option maxRecDepth 100000 in
set_option maxHeartbeats 4000000 in
theorem tX12_wants_17 (l : Launch) (G : km_G) {p : Program} {e : Env} {s : State} {m : MethodId} {args : Array Value} {below : List Frame} {meth : Method} {c : Code} (F : CallFix p m c cX12_wants 2 s args kt_ RX12) (hr : meth.sig.returnType = (some .int)) (hlocks : meth.locks = false) (Q : Int32 → km_S → Prop) : ∀ (μ : km_S) (H : Heap) (locs : List Loc) (ls : Array Slot), wX12_wants_17 Q μ → km_X G s H locs μ → lv_has ls 2 [(0, .ref (G.1 0))] → W p l e { frames := 1, cells := 0, slots := 0, locals := 20 } s m args below meth c H locs 0 0 (MQ below (km_Qi G Q) args s 0 0 (km_A G)) (F0 m 17 ls []) := by
  intro  μ H locs ls h C hl
  refine lv_aload_n F.1 F.2.1 dX12_wants_17 rfl (lv_at hl 0 rfl) ?_
  refine kc_X12_fail F C h (Nat.le_of_ble_eq_true rfl) (Nat.le_of_ble_eq_true rfl) hl.1 (by simp [Value.category]) dX12_wants_18 (fun r2 μ1 H locs h C => ?_)
  refine lv_goto (tgt := 30) F.1 F.2.1 dX12_wants_21 (by decide) ?_
  exact km_iret F C hr hlocks h dX12_wants_30
set_option maxRecDepth 100000 in
set_option maxHeartbeats 4000000 in
theorem hc_X12_wants (l : Launch) (G : km_G) (l1 : Int32) (μ : km_S) (Q : Int32 → km_S → Prop) (h : wX12_wants l1 μ Q) : km_M l G yX12_wants cX12_wants 2 (some .int) (1) (20) [.ref (G.1 0), .int l1] μ (km_Qi G Q) := by
  refine km_enter (by decide) rfl (Nat.le_of_ble_eq_true rfl) ?_
  intro p e s m below meth c ls F hr hlocks C hl
  have hl : lv_has ls 2 [(0, .ref (G.1 0)), (1, .int l1)] := hl
  obtain ⟨H, eH⟩ : ∃ z9, z9 = s.heap := ⟨_, rfl⟩
  obtain ⟨locs, eL⟩ : ∃ z9 : List Loc, z9 = [] := ⟨_, rfl⟩
  rw [← eH, ← eL] at C
  rw [← eH, ← eL]
  refine lv_aload_n F.1 F.2.1 dX12_wants_0 rfl (lv_at hl 0 rfl) ?_
  refine lv_iconst (v := 0) F.1 F.2.1 dX12_wants_1 (by decide) ?_
  refine kp_code F C dX12_wants_2 (fun H locs C => ?_)
  generalize eμ3 : km_si μ 1 0 = μ3 at C
  have h := h μ3 eμ3.symm
  refine lv_iload_n F.1 F.2.1 dX12_wants_5 rfl (lv_at hl 1 rfl) ?_
  refine lv_if_lt (tgt := 17) F.1 F.2.1 dX12_wants_6 (by decide) (fun c4 => ?_) (fun c4 => ?_)
  · have h := h.1 c4
    exact tX12_wants_17 l G F hr hlocks Q μ3 H locs ls h C (lv_sub hl [0] rfl)
  · have h := h.2 c4
    refine lv_iload_n F.1 F.2.1 dX12_wants_9 rfl (lv_at hl 1 rfl) ?_
    refine lv_aload_n F.1 F.2.1 dX12_wants_10 rfl (lv_at hl 0 rfl) ?_
    refine kg_orders F C dX12_wants_11 ?_
    refine lv_icmp_lt (tgt := 24) F.1 F.2.1 dX12_wants_14 (by decide) (fun c5 => ?_) (fun c5 => ?_)
    · have h := h.1 c5
      refine lv_aload_n F.1 F.2.1 dX12_wants_24 rfl (lv_at hl 0 rfl) ?_
      refine kg_wants F C dX12_wants_25 ?_
      refine lv_iload_n F.1 F.2.1 dX12_wants_28 rfl (lv_at hl 1 rfl) ?_
      obtain ⟨hn6, h⟩ := h
      refine kl_wants F C hn6 dX12_wants_29 ?_
      exact km_iret F C hr hlocks h dX12_wants_30
    · have h := h.2 c5
      exact tX12_wants_17 l G F hr hlocks Q μ3 H locs ls h C (lv_sub hl [0] rfl)
section
variable {p : Program} {l : Launch} {e : Env} {R : Room} {s : State} {m : MethodId} {args : Array Value} {below : List Frame} {meth : Method} {c : Code} {H : Heap} {locs : List Loc} {Q : State → Prop}
variable {cc : ByteArray} {pc nL : Nat} {ls : Array Slot} {rest : List Value} {G : km_G} {μ : km_S}
end
theorem dX12_log_0 : decode cX12_log 0 = .ok (.aload_n 0, 1) := by decide +kernel
theorem dX12_log_1 : decode cX12_log 1 = .ok (.iconst 0, 1) := by decide +kernel
theorem dX12_log_2 : decode cX12_log 2 = .ok (.putfield 173, 3) := by decide +kernel
theorem dX12_log_5 : decode cX12_log 5 = .ok (.aload_n 0, 1) := by decide +kernel
theorem dX12_log_6 : decode cX12_log 6 = .ok (.iload_n 1, 1) := by decide +kernel
theorem dX12_log_7 : decode cX12_log 7 = .ok (.invokevirtual 311, 3) := by decide +kernel
theorem dX12_log_10 : decode cX12_log 10 = .ok (.ifCond .ne 8, 3) := by decide +kernel
theorem dX12_log_13 : decode cX12_log 13 = .ok (.aload_n 0, 1) := by decide +kernel
theorem dX12_log_14 : decode cX12_log 14 = .ok (.invokevirtual 183, 3) := by decide +kernel
theorem dX12_log_17 : decode cX12_log 17 = .ok (.ireturn, 1) := by decide +kernel
theorem dX12_log_18 : decode cX12_log 18 = .ok (.iload_n 2, 1) := by decide +kernel
theorem dX12_log_19 : decode cX12_log 19 = .ok (.tableswitch 101 0 7 #[45, 52, 59, 66, 73, 80, 87, 94], 45) := by decide +kernel
theorem dX12_log_64 : decode cX12_log 64 = .ok (.aload_n 0, 1) := by decide +kernel
theorem dX12_log_65 : decode cX12_log 65 = .ok (.getfield 101, 3) := by decide +kernel
theorem dX12_log_68 : decode cX12_log 68 = .ok (.iload_n 1, 1) := by decide +kernel
theorem dX12_log_69 : decode cX12_log 69 = .ok (.iaload, 1) := by decide +kernel
theorem dX12_log_70 : decode cX12_log 70 = .ok (.ireturn, 1) := by decide +kernel
theorem dX12_log_71 : decode cX12_log 71 = .ok (.aload_n 0, 1) := by decide +kernel
theorem dX12_log_72 : decode cX12_log 72 = .ok (.getfield 103, 3) := by decide +kernel
theorem dX12_log_75 : decode cX12_log 75 = .ok (.iload_n 1, 1) := by decide +kernel
theorem dX12_log_76 : decode cX12_log 76 = .ok (.iaload, 1) := by decide +kernel
theorem dX12_log_77 : decode cX12_log 77 = .ok (.ireturn, 1) := by decide +kernel
theorem dX12_log_78 : decode cX12_log 78 = .ok (.aload_n 0, 1) := by decide +kernel
theorem dX12_log_79 : decode cX12_log 79 = .ok (.getfield 105, 3) := by decide +kernel
theorem dX12_log_82 : decode cX12_log 82 = .ok (.iload_n 1, 1) := by decide +kernel
theorem dX12_log_83 : decode cX12_log 83 = .ok (.iaload, 1) := by decide +kernel
theorem dX12_log_84 : decode cX12_log 84 = .ok (.ireturn, 1) := by decide +kernel
theorem dX12_log_85 : decode cX12_log 85 = .ok (.aload_n 0, 1) := by decide +kernel
theorem dX12_log_86 : decode cX12_log 86 = .ok (.getfield 107, 3) := by decide +kernel
theorem dX12_log_89 : decode cX12_log 89 = .ok (.iload_n 1, 1) := by decide +kernel
theorem dX12_log_90 : decode cX12_log 90 = .ok (.iaload, 1) := by decide +kernel
theorem dX12_log_91 : decode cX12_log 91 = .ok (.ireturn, 1) := by decide +kernel
theorem dX12_log_92 : decode cX12_log 92 = .ok (.aload_n 0, 1) := by decide +kernel
theorem dX12_log_93 : decode cX12_log 93 = .ok (.getfield 110, 3) := by decide +kernel
theorem dX12_log_96 : decode cX12_log 96 = .ok (.iload_n 1, 1) := by decide +kernel
theorem dX12_log_97 : decode cX12_log 97 = .ok (.iaload, 1) := by decide +kernel
theorem dX12_log_98 : decode cX12_log 98 = .ok (.ireturn, 1) := by decide +kernel
theorem dX12_log_99 : decode cX12_log 99 = .ok (.aload_n 0, 1) := by decide +kernel
theorem dX12_log_100 : decode cX12_log 100 = .ok (.getfield 113, 3) := by decide +kernel
theorem dX12_log_103 : decode cX12_log 103 = .ok (.iload_n 1, 1) := by decide +kernel
theorem dX12_log_104 : decode cX12_log 104 = .ok (.iaload, 1) := by decide +kernel
theorem dX12_log_105 : decode cX12_log 105 = .ok (.ireturn, 1) := by decide +kernel
theorem dX12_log_106 : decode cX12_log 106 = .ok (.aload_n 0, 1) := by decide +kernel
theorem dX12_log_107 : decode cX12_log 107 = .ok (.getfield 116, 3) := by decide +kernel
theorem dX12_log_110 : decode cX12_log 110 = .ok (.iload_n 1, 1) := by decide +kernel
theorem dX12_log_111 : decode cX12_log 111 = .ok (.iaload, 1) := by decide +kernel
theorem dX12_log_112 : decode cX12_log 112 = .ok (.ireturn, 1) := by decide +kernel
theorem dX12_log_113 : decode cX12_log 113 = .ok (.aload_n 0, 1) := by decide +kernel
theorem dX12_log_114 : decode cX12_log 114 = .ok (.getfield 118, 3) := by decide +kernel
theorem dX12_log_117 : decode cX12_log 117 = .ok (.iload_n 1, 1) := by decide +kernel
theorem dX12_log_118 : decode cX12_log 118 = .ok (.iaload, 1) := by decide +kernel
theorem dX12_log_119 : decode cX12_log 119 = .ok (.ireturn, 1) := by decide +kernel
theorem dX12_log_120 : decode cX12_log 120 = .ok (.aload_n 0, 1) := by decide +kernel
theorem dX12_log_121 : decode cX12_log 121 = .ok (.invokevirtual 183, 3) := by decide +kernel
theorem dX12_log_124 : decode cX12_log 124 = .ok (.ireturn, 1) := by decide +kernel
def wX12_log (l1 : Int32) (l2 : Int32) (μ : km_S) (Q : Int32 → km_S → Prop) : Prop := ∀ μ1, μ1 = km_si μ 1 0 → wX12_isLog l1 μ1 fun r3 μ2 => ((¬ r3 = 0 → ∀ v5, v5 = l2 → ((v5 = 0 → vp_in l1 400 ∧ Q (km_a μ2 35 l1.toNatClampNeg) μ2) ∧
    ((v5 = 1 → vp_in l1 400 ∧ Q (km_a μ2 36 l1.toNatClampNeg) μ2) ∧
    ((v5 = 2 → vp_in l1 400 ∧ Q (km_a μ2 37 l1.toNatClampNeg) μ2) ∧
    ((v5 = 3 → vp_in l1 400 ∧ Q (km_a μ2 38 l1.toNatClampNeg) μ2) ∧
    ((v5 = 4 → vp_in l1 400 ∧ Q (km_a μ2 39 l1.toNatClampNeg) μ2) ∧
    ((v5 = 5 → vp_in l1 400 ∧ Q (km_a μ2 40 l1.toNatClampNeg) μ2) ∧
    ((v5 = 6 → vp_in l1 400 ∧ Q (km_a μ2 41 l1.toNatClampNeg) μ2) ∧
    ((v5 = 7 → vp_in l1 400 ∧ Q (km_a μ2 42 l1.toNatClampNeg) μ2) ∧
    (¬ v5 = 0 → ¬ v5 = 1 → ¬ v5 = 2 → ¬ v5 = 3 → ¬ v5 = 4 → ¬ v5 = 5 → ¬ v5 = 6 → ¬ v5 = 7 → wX12_fail μ2 fun r23 μ22 => Q r23 μ22)))))))))) ∧
  (r3 = 0 → wX12_fail μ2 fun r25 μ24 => Q r25 μ24))
set_option maxRecDepth 100000 in
set_option maxHeartbeats 4000000 in
theorem hc_X12_log (l : Launch) (G : km_G) (l1 : Int32) (l2 : Int32) (μ : km_S) (Q : Int32 → km_S → Prop) (h : wX12_log l1 l2 μ Q) : km_M l G yX12_log cX12_log 3 (some .int) (1) (21) [.ref (G.1 0), .int l1, .int l2] μ (km_Qi G Q) := by
  refine km_enter (by decide) rfl (Nat.le_of_ble_eq_true rfl) ?_
  intro p e s m below meth c ls F hr hlocks C hl
  have hl : lv_has ls 3 [(0, .ref (G.1 0)), (1, .int l1), (2, .int l2)] := hl
  obtain ⟨H, eH⟩ : ∃ z9, z9 = s.heap := ⟨_, rfl⟩
  obtain ⟨locs, eL⟩ : ∃ z9 : List Loc, z9 = [] := ⟨_, rfl⟩
  rw [← eH, ← eL] at C
  rw [← eH, ← eL]
  refine lv_aload_n F.1 F.2.1 dX12_log_0 rfl (lv_at hl 0 rfl) ?_
  refine lv_iconst (v := 0) F.1 F.2.1 dX12_log_1 (by decide) ?_
  refine kp_code F C dX12_log_2 (fun H locs C => ?_)
  generalize eμ1 : km_si μ 1 0 = μ1 at C
  have h := h μ1 eμ1.symm
  refine lv_aload_n F.1 F.2.1 dX12_log_5 rfl (lv_at hl 0 rfl) ?_
  refine lv_iload_n F.1 F.2.1 dX12_log_6 rfl (lv_at hl 1 rfl) ?_
  refine kc_X12_isLog F C h (Nat.le_of_ble_eq_true rfl) (Nat.le_of_ble_eq_true rfl) hl.1 (by simp [Value.category]) dX12_log_7 (fun r3 μ2 H locs h C => ?_)
  refine lv_if_ne (tgt := 18) F.1 F.2.1 dX12_log_10 (by decide) (fun c4 => ?_) (fun c4 => ?_)
  · have h := h.1 c4
    refine lv_iload_n F.1 F.2.1 dX12_log_18 rfl (lv_at hl 2 rfl) ?_
    refine lv_topi (fun v5 ev5 => ?_)
    have h := h v5 ev5
    by_cases c6 : v5 = 0
    · have h := h.1 c6
      refine lv_tableIn (off := 45) (tgt := 64) F.1 F.2.1 dX12_log_19 (by rw [c6]; decide) (by rw [c6]; decide) (by rw [c6]; decide) (by decide) ?_
      refine lv_aload_n F.1 F.2.1 dX12_log_64 rfl (lv_at hl 0 rfl) ?_
      refine kg_mark F C dX12_log_65 ?_
      refine lv_iload_n F.1 F.2.1 dX12_log_68 rfl (lv_at hl 1 rfl) ?_
      obtain ⟨hn7, h⟩ := h
      refine kl_mark F C hn7 dX12_log_69 ?_
      exact km_iret F C hr hlocks h dX12_log_70
    have h := h.2
    by_cases c8 : v5 = 1
    · have h := h.1 c8
      refine lv_tableIn (off := 52) (tgt := 71) F.1 F.2.1 dX12_log_19 (by rw [c8]; decide) (by rw [c8]; decide) (by rw [c8]; decide) (by decide) ?_
      refine lv_aload_n F.1 F.2.1 dX12_log_71 rfl (lv_at hl 0 rfl) ?_
      refine kg_size F C dX12_log_72 ?_
      refine lv_iload_n F.1 F.2.1 dX12_log_75 rfl (lv_at hl 1 rfl) ?_
      obtain ⟨hn9, h⟩ := h
      refine kl_size F C hn9 dX12_log_76 ?_
      exact km_iret F C hr hlocks h dX12_log_77
    have h := h.2
    by_cases c10 : v5 = 2
    · have h := h.1 c10
      refine lv_tableIn (off := 59) (tgt := 78) F.1 F.2.1 dX12_log_19 (by rw [c10]; decide) (by rw [c10]; decide) (by rw [c10]; decide) (by decide) ?_
      refine lv_aload_n F.1 F.2.1 dX12_log_78 rfl (lv_at hl 0 rfl) ?_
      refine kg_stump F C dX12_log_79 ?_
      refine lv_iload_n F.1 F.2.1 dX12_log_82 rfl (lv_at hl 1 rfl) ?_
      obtain ⟨hn11, h⟩ := h
      refine kl_stump F C hn11 dX12_log_83 ?_
      exact km_iret F C hr hlocks h dX12_log_84
    have h := h.2
    by_cases c12 : v5 = 3
    · have h := h.1 c12
      refine lv_tableIn (off := 66) (tgt := 85) F.1 F.2.1 dX12_log_19 (by rw [c12]; decide) (by rw [c12]; decide) (by rw [c12]; decide) (by decide) ?_
      refine lv_aload_n F.1 F.2.1 dX12_log_85 rfl (lv_at hl 0 rfl) ?_
      refine kg_place F C dX12_log_86 ?_
      refine lv_iload_n F.1 F.2.1 dX12_log_89 rfl (lv_at hl 1 rfl) ?_
      obtain ⟨hn13, h⟩ := h
      refine kl_place F C hn13 dX12_log_90 ?_
      exact km_iret F C hr hlocks h dX12_log_91
    have h := h.2
    by_cases c14 : v5 = 4
    · have h := h.1 c14
      refine lv_tableIn (off := 73) (tgt := 92) F.1 F.2.1 dX12_log_19 (by rw [c14]; decide) (by rw [c14]; decide) (by rw [c14]; decide) (by decide) ?_
      refine lv_aload_n F.1 F.2.1 dX12_log_92 rfl (lv_at hl 0 rfl) ?_
      refine kg_reachOf F C dX12_log_93 ?_
      refine lv_iload_n F.1 F.2.1 dX12_log_96 rfl (lv_at hl 1 rfl) ?_
      obtain ⟨hn15, h⟩ := h
      refine kl_reachOf F C hn15 dX12_log_97 ?_
      exact km_iret F C hr hlocks h dX12_log_98
    have h := h.2
    by_cases c16 : v5 = 5
    · have h := h.1 c16
      refine lv_tableIn (off := 80) (tgt := 99) F.1 F.2.1 dX12_log_19 (by rw [c16]; decide) (by rw [c16]; decide) (by rw [c16]; decide) (by decide) ?_
      refine lv_aload_n F.1 F.2.1 dX12_log_99 rfl (lv_at hl 0 rfl) ?_
      refine kg_cellOf F C dX12_log_100 ?_
      refine lv_iload_n F.1 F.2.1 dX12_log_103 rfl (lv_at hl 1 rfl) ?_
      obtain ⟨hn17, h⟩ := h
      refine kl_cellOf F C hn17 dX12_log_104 ?_
      exact km_iret F C hr hlocks h dX12_log_105
    have h := h.2
    by_cases c18 : v5 = 6
    · have h := h.1 c18
      refine lv_tableIn (off := 87) (tgt := 106) F.1 F.2.1 dX12_log_19 (by rw [c18]; decide) (by rw [c18]; decide) (by rw [c18]; decide) (by decide) ?_
      refine lv_aload_n F.1 F.2.1 dX12_log_106 rfl (lv_at hl 0 rfl) ?_
      refine kg_age F C dX12_log_107 ?_
      refine lv_iload_n F.1 F.2.1 dX12_log_110 rfl (lv_at hl 1 rfl) ?_
      obtain ⟨hn19, h⟩ := h
      refine kl_age F C hn19 dX12_log_111 ?_
      exact km_iret F C hr hlocks h dX12_log_112
    have h := h.2
    by_cases c20 : v5 = 7
    · have h := h.1 c20
      refine lv_tableIn (off := 94) (tgt := 113) F.1 F.2.1 dX12_log_19 (by rw [c20]; decide) (by rw [c20]; decide) (by rw [c20]; decide) (by decide) ?_
      refine lv_aload_n F.1 F.2.1 dX12_log_113 rfl (lv_at hl 0 rfl) ?_
      refine kg_firstBoard F C dX12_log_114 ?_
      refine lv_iload_n F.1 F.2.1 dX12_log_117 rfl (lv_at hl 1 rfl) ?_
      obtain ⟨hn21, h⟩ := h
      refine kl_firstBoard F C hn21 dX12_log_118 ?_
      exact km_iret F C hr hlocks h dX12_log_119
    have h := h.2
    have ic6 : v5.toInt ≠ 0 := fun h9 => c6 (Int32.toInt_inj.mp (h9.trans (by decide)))
    have ic8 : v5.toInt ≠ 1 := fun h9 => c8 (Int32.toInt_inj.mp (h9.trans (by decide)))
    have ic10 : v5.toInt ≠ 2 := fun h9 => c10 (Int32.toInt_inj.mp (h9.trans (by decide)))
    have ic12 : v5.toInt ≠ 3 := fun h9 => c12 (Int32.toInt_inj.mp (h9.trans (by decide)))
    have ic14 : v5.toInt ≠ 4 := fun h9 => c14 (Int32.toInt_inj.mp (h9.trans (by decide)))
    have ic16 : v5.toInt ≠ 5 := fun h9 => c16 (Int32.toInt_inj.mp (h9.trans (by decide)))
    have ic18 : v5.toInt ≠ 6 := fun h9 => c18 (Int32.toInt_inj.mp (h9.trans (by decide)))
    have ic20 : v5.toInt ≠ 7 := fun h9 => c20 (Int32.toInt_inj.mp (h9.trans (by decide)))
    have h := h c6 c8 c10 c12 c14 c16 c18 c20
    refine lv_tableOut (tgt := 120) F.1 F.2.1 dX12_log_19 (by omega) (by decide) ?_
    refine lv_aload_n F.1 F.2.1 dX12_log_120 rfl (lv_at hl 0 rfl) ?_
    refine kc_X12_fail F C h (Nat.le_of_ble_eq_true rfl) (Nat.le_of_ble_eq_true rfl) hl.1 (by simp [Value.category]) dX12_log_121 (fun r23 μ22 H locs h C => ?_)
    exact km_iret F C hr hlocks h dX12_log_124
  · have h := h.2 c4
    refine lv_aload_n F.1 F.2.1 dX12_log_13 rfl (lv_at hl 0 rfl) ?_
    refine kc_X12_fail F C h (Nat.le_of_ble_eq_true rfl) (Nat.le_of_ble_eq_true rfl) hl.1 (by simp [Value.category]) dX12_log_14 (fun r25 μ24 H locs h C => ?_)
    exact km_iret F C hr hlocks h dX12_log_17
section
variable {p : Program} {l : Launch} {e : Env} {R : Room} {s : State} {m : MethodId} {args : Array Value} {below : List Frame} {meth : Method} {c : Code} {H : Heap} {locs : List Loc} {Q : State → Prop}
variable {cc : ByteArray} {pc nL : Nat} {ls : Array Slot} {rest : List Value} {G : km_G} {μ : km_S}
end
theorem dX12_cell_0 : decode cX12_cell 0 = .ok (.aload_n 0, 1) := by decide +kernel
theorem dX12_cell_1 : decode cX12_cell 1 = .ok (.iconst 0, 1) := by decide +kernel
theorem dX12_cell_2 : decode cX12_cell 2 = .ok (.putfield 173, 3) := by decide +kernel
theorem dX12_cell_5 : decode cX12_cell 5 = .ok (.aload_n 0, 1) := by decide +kernel
theorem dX12_cell_6 : decode cX12_cell 6 = .ok (.iload_n 1, 1) := by decide +kernel
theorem dX12_cell_7 : decode cX12_cell 7 = .ok (.iload_n 2, 1) := by decide +kernel
theorem dX12_cell_8 : decode cX12_cell 8 = .ok (.invokevirtual 314, 3) := by decide +kernel
theorem dX12_cell_11 : decode cX12_cell 11 = .ok (.ifCond .eq 12, 3) := by decide +kernel
theorem dX12_cell_14 : decode cX12_cell 14 = .ok (.iload_n 3, 1) := by decide +kernel
theorem dX12_cell_15 : decode cX12_cell 15 = .ok (.ifCond .lt 8, 3) := by decide +kernel
theorem dX12_cell_18 : decode cX12_cell 18 = .ok (.iload_n 3, 1) := by decide +kernel
theorem dX12_cell_19 : decode cX12_cell 19 = .ok (.iconst 2, 1) := by decide +kernel
theorem dX12_cell_20 : decode cX12_cell 20 = .ok (.if_icmp .le 8, 3) := by decide +kernel
theorem dX12_cell_23 : decode cX12_cell 23 = .ok (.aload_n 0, 1) := by decide +kernel
theorem dX12_cell_24 : decode cX12_cell 24 = .ok (.invokevirtual 183, 3) := by decide +kernel
theorem dX12_cell_27 : decode cX12_cell 27 = .ok (.ireturn, 1) := by decide +kernel
theorem dX12_cell_28 : decode cX12_cell 28 = .ok (.iload_n 1, 1) := by decide +kernel
theorem dX12_cell_29 : decode cX12_cell 29 = .ok (.iload_n 2, 1) := by decide +kernel
theorem dX12_cell_30 : decode cX12_cell 30 = .ok (.invokestatic 307, 3) := by decide +kernel
theorem dX12_cell_33 : decode cX12_cell 33 = .ok (.istore 4, 2) := by decide +kernel
theorem dX12_cell_35 : decode cX12_cell 35 = .ok (.iload_n 3, 1) := by decide +kernel
theorem dX12_cell_36 : decode cX12_cell 36 = .ok (.ifCond .ne 13, 3) := by decide +kernel
theorem dX12_cell_39 : decode cX12_cell 39 = .ok (.aload_n 0, 1) := by decide +kernel
theorem dX12_cell_40 : decode cX12_cell 40 = .ok (.getfield 89, 3) := by decide +kernel
theorem dX12_cell_43 : decode cX12_cell 43 = .ok (.iload 4, 2) := by decide +kernel
theorem dX12_cell_45 : decode cX12_cell 45 = .ok (.iaload, 1) := by decide +kernel
theorem dX12_cell_46 : decode cX12_cell 46 = .ok (.goto 41, 3) := by decide +kernel
theorem dX12_cell_49 : decode cX12_cell 49 = .ok (.iload_n 3, 1) := by decide +kernel
theorem dX12_cell_50 : decode cX12_cell 50 = .ok (.iconst 1, 1) := by decide +kernel
theorem dX12_cell_51 : decode cX12_cell 51 = .ok (.if_icmp .ne 21, 3) := by decide +kernel
theorem dX12_cell_54 : decode cX12_cell 54 = .ok (.aload_n 0, 1) := by decide +kernel
theorem dX12_cell_55 : decode cX12_cell 55 = .ok (.getfield 95, 3) := by decide +kernel
theorem dX12_cell_58 : decode cX12_cell 58 = .ok (.iload 4, 2) := by decide +kernel
theorem dX12_cell_60 : decode cX12_cell 60 = .ok (.baload, 1) := by decide +kernel
theorem dX12_cell_61 : decode cX12_cell 61 = .ok (.ifCond .eq 7, 3) := by decide +kernel
theorem dX12_cell_64 : decode cX12_cell 64 = .ok (.iconst 1, 1) := by decide +kernel
theorem dX12_cell_65 : decode cX12_cell 65 = .ok (.goto 22, 3) := by decide +kernel
theorem dX12_cell_68 : decode cX12_cell 68 = .ok (.iconst 0, 1) := by decide +kernel
theorem dX12_cell_69 : decode cX12_cell 69 = .ok (.goto 18, 3) := by decide +kernel
theorem dX12_cell_72 : decode cX12_cell 72 = .ok (.aload_n 0, 1) := by decide +kernel
theorem dX12_cell_73 : decode cX12_cell 73 = .ok (.getfield 98, 3) := by decide +kernel
theorem dX12_cell_76 : decode cX12_cell 76 = .ok (.iload 4, 2) := by decide +kernel
theorem dX12_cell_78 : decode cX12_cell 78 = .ok (.baload, 1) := by decide +kernel
theorem dX12_cell_79 : decode cX12_cell 79 = .ok (.ifCond .eq 7, 3) := by decide +kernel
theorem dX12_cell_82 : decode cX12_cell 82 = .ok (.iconst 1, 1) := by decide +kernel
theorem dX12_cell_83 : decode cX12_cell 83 = .ok (.goto 4, 3) := by decide +kernel
theorem dX12_cell_86 : decode cX12_cell 86 = .ok (.iconst 0, 1) := by decide +kernel
theorem dX12_cell_87 : decode cX12_cell 87 = .ok (.ireturn, 1) := by decide +kernel
def wX12_cell_23 (Q : Int32 → km_S → Prop) (μ : km_S) : Prop := wX12_fail μ fun r2 μ1 => Q r2 μ1
def wX12_cell (l1 : Int32) (l2 : Int32) (l3 : Int32) (μ : km_S) (Q : Int32 → km_S → Prop) : Prop := ∀ μ3, μ3 = km_si μ 1 0 → wX12_isCell l1 l2 μ3 fun r5 μ4 => ((r5 = 0 → wX12_cell_23 Q μ4) ∧
  (¬ (r5 = 0) → ((l3 < 0 → wX12_cell_23 Q μ4) ∧
    (¬ (l3 < 0) → ((l3 ≤ 2 → wX12_at0 l1 l2 μ4 fun r10 μ9 => ((¬ l3 = 0 → ((¬ l3 = 1 → vp_in r10 120 ∧ (((km_a μ9 34 r10.toNatClampNeg) = 0 → Q 0 μ9) ∧
            (¬ ((km_a μ9 34 r10.toNatClampNeg) = 0) → Q 1 μ9))) ∧
          (l3 = 1 → vp_in r10 120 ∧ (((km_a μ9 33 r10.toNatClampNeg) = 0 → Q 0 μ9) ∧
            (¬ ((km_a μ9 33 r10.toNatClampNeg) = 0) → Q 1 μ9))))) ∧
        (l3 = 0 → vp_in r10 120 ∧ Q (km_a μ9 31 r10.toNatClampNeg) μ9))) ∧
      (¬ (l3 ≤ 2) → wX12_cell_23 Q μ4))))))
set_option maxRecDepth 100000 in
set_option maxHeartbeats 4000000 in
theorem tX12_cell_23 (l : Launch) (G : km_G) {p : Program} {e : Env} {s : State} {m : MethodId} {args : Array Value} {below : List Frame} {meth : Method} {c : Code} (F : CallFix p m c cX12_cell 5 s args kt_ RX12) (hr : meth.sig.returnType = (some .int)) (hlocks : meth.locks = false) (Q : Int32 → km_S → Prop) : ∀ (μ : km_S) (H : Heap) (locs : List Loc) (ls : Array Slot), wX12_cell_23 Q μ → km_X G s H locs μ → lv_has ls 5 [(0, .ref (G.1 0))] → W p l e { frames := 2, cells := 0, slots := 0, locals := 43 } s m args below meth c H locs 0 0 (MQ below (km_Qi G Q) args s 0 0 (km_A G)) (F0 m 23 ls []) := by
  intro  μ H locs ls h C hl
  refine lv_aload_n F.1 F.2.1 dX12_cell_23 rfl (lv_at hl 0 rfl) ?_
  refine kc_X12_fail F C h (Nat.le_of_ble_eq_true rfl) (Nat.le_of_ble_eq_true rfl) hl.1 (by simp [Value.category]) dX12_cell_24 (fun r2 μ1 H locs h C => ?_)
  exact km_iret F C hr hlocks h dX12_cell_27
set_option maxRecDepth 100000 in
set_option maxHeartbeats 4000000 in
theorem hc_X12_cell (l : Launch) (G : km_G) (l1 : Int32) (l2 : Int32) (l3 : Int32) (μ : km_S) (Q : Int32 → km_S → Prop) (h : wX12_cell l1 l2 l3 μ Q) : km_M l G yX12_cell cX12_cell 5 (some .int) (2) (43) [.ref (G.1 0), .int l1, .int l2, .int l3] μ (km_Qi G Q) := by
  refine km_enter (by decide) rfl (Nat.le_of_ble_eq_true rfl) ?_
  intro p e s m below meth c ls F hr hlocks C hl
  have hl : lv_has ls 5 [(0, .ref (G.1 0)), (1, .int l1), (2, .int l2), (3, .int l3)] := hl
  obtain ⟨H, eH⟩ : ∃ z9, z9 = s.heap := ⟨_, rfl⟩
  obtain ⟨locs, eL⟩ : ∃ z9 : List Loc, z9 = [] := ⟨_, rfl⟩
  rw [← eH, ← eL] at C
  rw [← eH, ← eL]
  refine lv_aload_n F.1 F.2.1 dX12_cell_0 rfl (lv_at hl 0 rfl) ?_
  refine lv_iconst (v := 0) F.1 F.2.1 dX12_cell_1 (by decide) ?_
  refine kp_code F C dX12_cell_2 (fun H locs C => ?_)
  generalize eμ3 : km_si μ 1 0 = μ3 at C
  have h := h μ3 eμ3.symm
  refine lv_aload_n F.1 F.2.1 dX12_cell_5 rfl (lv_at hl 0 rfl) ?_
  refine lv_iload_n F.1 F.2.1 dX12_cell_6 rfl (lv_at hl 1 rfl) ?_
  refine lv_iload_n F.1 F.2.1 dX12_cell_7 rfl (lv_at hl 2 rfl) ?_
  refine kc_X12_isCell F C h (Nat.le_of_ble_eq_true rfl) (Nat.le_of_ble_eq_true rfl) hl.1 (by simp [Value.category]) dX12_cell_8 (fun r5 μ4 H locs h C => ?_)
  refine lv_if_eq (tgt := 23) F.1 F.2.1 dX12_cell_11 (by decide) (fun c6 => ?_) (fun c6 => ?_)
  · have h := h.1 c6
    exact tX12_cell_23 l G F hr hlocks Q μ4 H locs ls h C (lv_sub hl [0] rfl)
  · have h := h.2 c6
    refine lv_iload_n F.1 F.2.1 dX12_cell_14 rfl (lv_at hl 3 rfl) ?_
    refine lv_if_lt (tgt := 23) F.1 F.2.1 dX12_cell_15 (by decide) (fun c7 => ?_) (fun c7 => ?_)
    · have h := h.1 c7
      exact tX12_cell_23 l G F hr hlocks Q μ4 H locs ls h C (lv_sub hl [0] rfl)
    · have h := h.2 c7
      refine lv_iload_n F.1 F.2.1 dX12_cell_18 rfl (lv_at hl 3 rfl) ?_
      refine lv_iconst (v := 2) F.1 F.2.1 dX12_cell_19 (by decide) ?_
      refine lv_icmp_le (tgt := 28) F.1 F.2.1 dX12_cell_20 (by decide) (fun c8 => ?_) (fun c8 => ?_)
      · have h := h.1 c8
        refine lv_iload_n F.1 F.2.1 dX12_cell_28 rfl (lv_at hl 1 rfl) ?_
        refine lv_iload_n F.1 F.2.1 dX12_cell_29 rfl (lv_at hl 2 rfl) ?_
        refine kc_X12_at0 F C h (Nat.le_of_ble_eq_true rfl) (Nat.le_of_ble_eq_true rfl) hl.1 (by simp [Value.category]) dX12_cell_30 (fun r10 μ9 H locs h C => ?_)
        refine lv_istore (lv' := [(4, .int r10), (0, .ref (G.1 0)), (1, .int l1), (2, .int l2), (3, .int l3)]) F.1 F.2.1 dX12_cell_33 hl (by decide) rfl (fun ls hl => ?_)
        refine lv_iload_n F.1 F.2.1 dX12_cell_35 rfl (lv_at hl 4 rfl) ?_
        refine lv_if_ne (tgt := 49) F.1 F.2.1 dX12_cell_36 (by decide) (fun c11 => ?_) (fun c11 => ?_)
        · have h := h.1 c11
          refine lv_iload_n F.1 F.2.1 dX12_cell_49 rfl (lv_at hl 4 rfl) ?_
          refine lv_iconst (v := 1) F.1 F.2.1 dX12_cell_50 (by decide) ?_
          refine lv_icmp_ne (tgt := 72) F.1 F.2.1 dX12_cell_51 (by decide) (fun c12 => ?_) (fun c12 => ?_)
          · have h := h.1 c12
            refine lv_aload_n F.1 F.2.1 dX12_cell_72 rfl (lv_at hl 1 rfl) ?_
            refine kg_isKnown F C dX12_cell_73 ?_
            refine lv_iload F.1 F.2.1 dX12_cell_76 (lv_at hl 0 rfl) ?_
            obtain ⟨hn13, h⟩ := h
            refine kl_isKnown F C hn13 dX12_cell_78 ?_
            refine lv_if_eq (tgt := 86) F.1 F.2.1 dX12_cell_79 (by decide) (fun c14 => ?_) (fun c14 => ?_)
            · have h := h.1 c14
              refine lv_iconst (v := 0) F.1 F.2.1 dX12_cell_86 (by decide) ?_
              exact km_iret F C hr hlocks h dX12_cell_87
            · have h := h.2 c14
              refine lv_iconst (v := 1) F.1 F.2.1 dX12_cell_82 (by decide) ?_
              refine lv_goto (tgt := 87) F.1 F.2.1 dX12_cell_83 (by decide) ?_
              exact km_iret F C hr hlocks h dX12_cell_87
          · have h := h.2 c12
            refine lv_aload_n F.1 F.2.1 dX12_cell_54 rfl (lv_at hl 1 rfl) ?_
            refine kg_isJammed F C dX12_cell_55 ?_
            refine lv_iload F.1 F.2.1 dX12_cell_58 (lv_at hl 0 rfl) ?_
            obtain ⟨hn15, h⟩ := h
            refine kl_isJammed F C hn15 dX12_cell_60 ?_
            refine lv_if_eq (tgt := 68) F.1 F.2.1 dX12_cell_61 (by decide) (fun c16 => ?_) (fun c16 => ?_)
            · have h := h.1 c16
              refine lv_iconst (v := 0) F.1 F.2.1 dX12_cell_68 (by decide) ?_
              refine lv_goto (tgt := 87) F.1 F.2.1 dX12_cell_69 (by decide) ?_
              exact km_iret F C hr hlocks h dX12_cell_87
            · have h := h.2 c16
              refine lv_iconst (v := 1) F.1 F.2.1 dX12_cell_64 (by decide) ?_
              refine lv_goto (tgt := 87) F.1 F.2.1 dX12_cell_65 (by decide) ?_
              exact km_iret F C hr hlocks h dX12_cell_87
        · have h := h.2 c11
          refine lv_aload_n F.1 F.2.1 dX12_cell_39 rfl (lv_at hl 1 rfl) ?_
          refine kg_holds F C dX12_cell_40 ?_
          refine lv_iload F.1 F.2.1 dX12_cell_43 (lv_at hl 0 rfl) ?_
          obtain ⟨hn17, h⟩ := h
          refine kl_holds F C hn17 dX12_cell_45 ?_
          refine lv_goto (tgt := 87) F.1 F.2.1 dX12_cell_46 (by decide) ?_
          exact km_iret F C hr hlocks h dX12_cell_87
      · have h := h.2 c8
        exact tX12_cell_23 l G F hr hlocks Q μ4 H locs ls h C (lv_sub hl [0] rfl)
section
variable {p : Program} {l : Launch} {e : Env} {R : Room} {s : State} {m : MethodId} {args : Array Value} {below : List Frame} {meth : Method} {c : Code} {H : Heap} {locs : List Loc} {Q : State → Prop}
variable {cc : ByteArray} {pc nL : Nat} {ls : Array Slot} {rest : List Value} {G : km_G} {μ : km_S}
end
theorem dX12_inCell_0 : decode cX12_inCell 0 = .ok (.aload_n 0, 1) := by decide +kernel
theorem dX12_inCell_1 : decode cX12_inCell 1 = .ok (.iconst 0, 1) := by decide +kernel
theorem dX12_inCell_2 : decode cX12_inCell 2 = .ok (.putfield 173, 3) := by decide +kernel
theorem dX12_inCell_5 : decode cX12_inCell 5 = .ok (.aload_n 0, 1) := by decide +kernel
theorem dX12_inCell_6 : decode cX12_inCell 6 = .ok (.iload_n 1, 1) := by decide +kernel
theorem dX12_inCell_7 : decode cX12_inCell 7 = .ok (.iload_n 2, 1) := by decide +kernel
theorem dX12_inCell_8 : decode cX12_inCell 8 = .ok (.invokevirtual 314, 3) := by decide +kernel
theorem dX12_inCell_11 : decode cX12_inCell 11 = .ok (.ifCond .ne 8, 3) := by decide +kernel
theorem dX12_inCell_14 : decode cX12_inCell 14 = .ok (.aload_n 0, 1) := by decide +kernel
theorem dX12_inCell_15 : decode cX12_inCell 15 = .ok (.invokevirtual 183, 3) := by decide +kernel
theorem dX12_inCell_18 : decode cX12_inCell 18 = .ok (.ireturn, 1) := by decide +kernel
theorem dX12_inCell_19 : decode cX12_inCell 19 = .ok (.iload_n 3, 1) := by decide +kernel
theorem dX12_inCell_20 : decode cX12_inCell 20 = .ok (.ifCond .lt 17, 3) := by decide +kernel
theorem dX12_inCell_23 : decode cX12_inCell 23 = .ok (.iload_n 3, 1) := by decide +kernel
theorem dX12_inCell_24 : decode cX12_inCell 24 = .ok (.aload_n 0, 1) := by decide +kernel
theorem dX12_inCell_25 : decode cX12_inCell 25 = .ok (.getfield 89, 3) := by decide +kernel
theorem dX12_inCell_28 : decode cX12_inCell 28 = .ok (.iload_n 1, 1) := by decide +kernel
theorem dX12_inCell_29 : decode cX12_inCell 29 = .ok (.iload_n 2, 1) := by decide +kernel
theorem dX12_inCell_30 : decode cX12_inCell 30 = .ok (.invokestatic 307, 3) := by decide +kernel
theorem dX12_inCell_33 : decode cX12_inCell 33 = .ok (.iaload, 1) := by decide +kernel
theorem dX12_inCell_34 : decode cX12_inCell 34 = .ok (.if_icmp .lt 7, 3) := by decide +kernel
theorem dX12_inCell_37 : decode cX12_inCell 37 = .ok (.iconst (-1), 1) := by decide +kernel
theorem dX12_inCell_38 : decode cX12_inCell 38 = .ok (.goto 18, 3) := by decide +kernel
theorem dX12_inCell_41 : decode cX12_inCell 41 = .ok (.aload_n 0, 1) := by decide +kernel
theorem dX12_inCell_42 : decode cX12_inCell 42 = .ok (.getfield 92, 3) := by decide +kernel
theorem dX12_inCell_45 : decode cX12_inCell 45 = .ok (.bipush 20, 2) := by decide +kernel
theorem dX12_inCell_47 : decode cX12_inCell 47 = .ok (.iload_n 1, 1) := by decide +kernel
theorem dX12_inCell_48 : decode cX12_inCell 48 = .ok (.iload_n 2, 1) := by decide +kernel
theorem dX12_inCell_49 : decode cX12_inCell 49 = .ok (.invokestatic 307, 3) := by decide +kernel
theorem dX12_inCell_52 : decode cX12_inCell 52 = .ok (.imul, 1) := by decide +kernel
theorem dX12_inCell_53 : decode cX12_inCell 53 = .ok (.iload_n 3, 1) := by decide +kernel
theorem dX12_inCell_54 : decode cX12_inCell 54 = .ok (.iadd, 1) := by decide +kernel
theorem dX12_inCell_55 : decode cX12_inCell 55 = .ok (.iaload, 1) := by decide +kernel
theorem dX12_inCell_56 : decode cX12_inCell 56 = .ok (.ireturn, 1) := by decide +kernel
def wX12_inCell (l1 : Int32) (l2 : Int32) (l3 : Int32) (μ : km_S) (Q : Int32 → km_S → Prop) : Prop := ∀ μ1, μ1 = km_si μ 1 0 → wX12_isCell l1 l2 μ1 fun r3 μ2 => ((¬ r3 = 0 → ((l3 < 0 → Q (-1) μ2) ∧
    (¬ (l3 < 0) → wX12_at0 l1 l2 μ2 fun r7 μ6 => vp_in r7 120 ∧ ((l3 < (km_a μ6 31 r7.toNatClampNeg) → wX12_at0 l1 l2 μ6 fun r11 μ10 => vp_in ((20 * r11) + l3) 2400 ∧ Q (km_a μ10 32 ((20 * r11) + l3).toNatClampNeg) μ10) ∧
      (¬ (l3 < (km_a μ6 31 r7.toNatClampNeg)) → Q (-1) μ6))))) ∧
  (r3 = 0 → wX12_fail μ2 fun r14 μ13 => Q r14 μ13))
set_option maxRecDepth 100000 in
set_option maxHeartbeats 4000000 in
theorem hc_X12_inCell (l : Launch) (G : km_G) (l1 : Int32) (l2 : Int32) (l3 : Int32) (μ : km_S) (Q : Int32 → km_S → Prop) (h : wX12_inCell l1 l2 l3 μ Q) : km_M l G yX12_inCell cX12_inCell 4 (some .int) (2) (43) [.ref (G.1 0), .int l1, .int l2, .int l3] μ (km_Qi G Q) := by
  refine km_enter (by decide) rfl (Nat.le_of_ble_eq_true rfl) ?_
  intro p e s m below meth c ls F hr hlocks C hl
  have hl : lv_has ls 4 [(0, .ref (G.1 0)), (1, .int l1), (2, .int l2), (3, .int l3)] := hl
  obtain ⟨H, eH⟩ : ∃ z9, z9 = s.heap := ⟨_, rfl⟩
  obtain ⟨locs, eL⟩ : ∃ z9 : List Loc, z9 = [] := ⟨_, rfl⟩
  rw [← eH, ← eL] at C
  rw [← eH, ← eL]
  refine lv_aload_n F.1 F.2.1 dX12_inCell_0 rfl (lv_at hl 0 rfl) ?_
  refine lv_iconst (v := 0) F.1 F.2.1 dX12_inCell_1 (by decide) ?_
  refine kp_code F C dX12_inCell_2 (fun H locs C => ?_)
  generalize eμ1 : km_si μ 1 0 = μ1 at C
  have h := h μ1 eμ1.symm
  refine lv_aload_n F.1 F.2.1 dX12_inCell_5 rfl (lv_at hl 0 rfl) ?_
  refine lv_iload_n F.1 F.2.1 dX12_inCell_6 rfl (lv_at hl 1 rfl) ?_
  refine lv_iload_n F.1 F.2.1 dX12_inCell_7 rfl (lv_at hl 2 rfl) ?_
  refine kc_X12_isCell F C h (Nat.le_of_ble_eq_true rfl) (Nat.le_of_ble_eq_true rfl) hl.1 (by simp [Value.category]) dX12_inCell_8 (fun r3 μ2 H locs h C => ?_)
  refine lv_if_ne (tgt := 19) F.1 F.2.1 dX12_inCell_11 (by decide) (fun c4 => ?_) (fun c4 => ?_)
  · have h := h.1 c4
    refine lv_iload_n F.1 F.2.1 dX12_inCell_19 rfl (lv_at hl 3 rfl) ?_
    refine lv_if_lt (tgt := 37) F.1 F.2.1 dX12_inCell_20 (by decide) (fun c5 => ?_) (fun c5 => ?_)
    · have h := h.1 c5
      refine lv_iconst (v := (-1)) F.1 F.2.1 dX12_inCell_37 (by decide) ?_
      refine lv_goto (tgt := 56) F.1 F.2.1 dX12_inCell_38 (by decide) ?_
      exact km_iret F C hr hlocks h dX12_inCell_56
    · have h := h.2 c5
      refine lv_iload_n F.1 F.2.1 dX12_inCell_23 rfl (lv_at hl 3 rfl) ?_
      refine lv_aload_n F.1 F.2.1 dX12_inCell_24 rfl (lv_at hl 0 rfl) ?_
      refine kg_holds F C dX12_inCell_25 ?_
      refine lv_iload_n F.1 F.2.1 dX12_inCell_28 rfl (lv_at hl 1 rfl) ?_
      refine lv_iload_n F.1 F.2.1 dX12_inCell_29 rfl (lv_at hl 2 rfl) ?_
      refine kc_X12_at0 F C h (Nat.le_of_ble_eq_true rfl) (Nat.le_of_ble_eq_true rfl) hl.1 (by simp [Value.category]) dX12_inCell_30 (fun r7 μ6 H locs h C => ?_)
      obtain ⟨hn8, h⟩ := h
      refine kl_holds F C hn8 dX12_inCell_33 ?_
      refine lv_icmp_lt (tgt := 41) F.1 F.2.1 dX12_inCell_34 (by decide) (fun c9 => ?_) (fun c9 => ?_)
      · have h := h.1 c9
        refine lv_aload_n F.1 F.2.1 dX12_inCell_41 rfl (lv_at hl 0 rfl) ?_
        refine kg_lie F C dX12_inCell_42 ?_
        refine lv_bipush (v := 20) F.1 F.2.1 dX12_inCell_45 (by decide) ?_
        refine lv_iload_n F.1 F.2.1 dX12_inCell_47 rfl (lv_at hl 1 rfl) ?_
        refine lv_iload_n F.1 F.2.1 dX12_inCell_48 rfl (lv_at hl 2 rfl) ?_
        refine kc_X12_at0 F C h (Nat.le_of_ble_eq_true rfl) (Nat.le_of_ble_eq_true rfl) hl.1 (by simp [Value.category]) dX12_inCell_49 (fun r11 μ10 H locs h C => ?_)
        refine lv_imul (x := 20) (y := r11) F.1 F.2.1 dX12_inCell_52 ?_
        refine lv_iload_n F.1 F.2.1 dX12_inCell_53 rfl (lv_at hl 3 rfl) ?_
        refine lv_iadd (x := 20 * r11) (y := l3) F.1 F.2.1 dX12_inCell_54 ?_
        obtain ⟨hn12, h⟩ := h
        refine kl_lie F C hn12 dX12_inCell_55 ?_
        exact km_iret F C hr hlocks h dX12_inCell_56
      · have h := h.2 c9
        refine lv_iconst (v := (-1)) F.1 F.2.1 dX12_inCell_37 (by decide) ?_
        refine lv_goto (tgt := 56) F.1 F.2.1 dX12_inCell_38 (by decide) ?_
        exact km_iret F C hr hlocks h dX12_inCell_56
  · have h := h.2 c4
    refine lv_aload_n F.1 F.2.1 dX12_inCell_14 rfl (lv_at hl 0 rfl) ?_
    refine kc_X12_fail F C h (Nat.le_of_ble_eq_true rfl) (Nat.le_of_ble_eq_true rfl) hl.1 (by simp [Value.category]) dX12_inCell_15 (fun r14 μ13 H locs h C => ?_)
    exact km_iret F C hr hlocks h dX12_inCell_18
section
variable {p : Program} {l : Launch} {e : Env} {R : Room} {s : State} {m : MethodId} {args : Array Value} {below : List Frame} {meth : Method} {c : Code} {H : Heap} {locs : List Loc} {Q : State → Prop}
variable {cc : ByteArray} {pc nL : Nat} {ls : Array Slot} {rest : List Value} {G : km_G} {μ : km_S}
end
theorem dX12_heap_0 : decode cX12_heap 0 = .ok (.aload_n 0, 1) := by decide +kernel
theorem dX12_heap_1 : decode cX12_heap 1 = .ok (.iconst 0, 1) := by decide +kernel
theorem dX12_heap_2 : decode cX12_heap 2 = .ok (.putfield 173, 3) := by decide +kernel
theorem dX12_heap_5 : decode cX12_heap 5 = .ok (.aload_n 0, 1) := by decide +kernel
theorem dX12_heap_6 : decode cX12_heap 6 = .ok (.iload_n 1, 1) := by decide +kernel
theorem dX12_heap_7 : decode cX12_heap 7 = .ok (.invokevirtual 179, 3) := by decide +kernel
theorem dX12_heap_10 : decode cX12_heap 10 = .ok (.ifCond .ne 8, 3) := by decide +kernel
theorem dX12_heap_13 : decode cX12_heap 13 = .ok (.aload_n 0, 1) := by decide +kernel
theorem dX12_heap_14 : decode cX12_heap 14 = .ok (.invokevirtual 183, 3) := by decide +kernel
theorem dX12_heap_17 : decode cX12_heap 17 = .ok (.ireturn, 1) := by decide +kernel
theorem dX12_heap_18 : decode cX12_heap 18 = .ok (.aload_n 0, 1) := by decide +kernel
theorem dX12_heap_19 : decode cX12_heap 19 = .ok (.getfield 62, 3) := by decide +kernel
theorem dX12_heap_22 : decode cX12_heap 22 = .ok (.iload_n 1, 1) := by decide +kernel
theorem dX12_heap_23 : decode cX12_heap 23 = .ok (.baload, 1) := by decide +kernel
theorem dX12_heap_24 : decode cX12_heap 24 = .ok (.ifCond .ne 5, 3) := by decide +kernel
theorem dX12_heap_27 : decode cX12_heap 27 = .ok (.iconst (-1), 1) := by decide +kernel
theorem dX12_heap_28 : decode cX12_heap 28 = .ok (.ireturn, 1) := by decide +kernel
theorem dX12_heap_29 : decode cX12_heap 29 = .ok (.iload_n 2, 1) := by decide +kernel
theorem dX12_heap_30 : decode cX12_heap 30 = .ok (.iconst (-1), 1) := by decide +kernel
theorem dX12_heap_31 : decode cX12_heap 31 = .ok (.if_icmp .ne 12, 3) := by decide +kernel
theorem dX12_heap_34 : decode cX12_heap 34 = .ok (.aload_n 0, 1) := by decide +kernel
theorem dX12_heap_35 : decode cX12_heap 35 = .ok (.getfield 83, 3) := by decide +kernel
theorem dX12_heap_38 : decode cX12_heap 38 = .ok (.iload_n 1, 1) := by decide +kernel
theorem dX12_heap_39 : decode cX12_heap 39 = .ok (.iaload, 1) := by decide +kernel
theorem dX12_heap_40 : decode cX12_heap 40 = .ok (.goto 32, 3) := by decide +kernel
theorem dX12_heap_43 : decode cX12_heap 43 = .ok (.iload_n 2, 1) := by decide +kernel
theorem dX12_heap_44 : decode cX12_heap 44 = .ok (.ifCond .lt 13, 3) := by decide +kernel
theorem dX12_heap_47 : decode cX12_heap 47 = .ok (.iload_n 2, 1) := by decide +kernel
theorem dX12_heap_48 : decode cX12_heap 48 = .ok (.aload_n 0, 1) := by decide +kernel
theorem dX12_heap_49 : decode cX12_heap 49 = .ok (.getfield 83, 3) := by decide +kernel
theorem dX12_heap_52 : decode cX12_heap 52 = .ok (.iload_n 1, 1) := by decide +kernel
theorem dX12_heap_53 : decode cX12_heap 53 = .ok (.iaload, 1) := by decide +kernel
theorem dX12_heap_54 : decode cX12_heap 54 = .ok (.if_icmp .lt 7, 3) := by decide +kernel
theorem dX12_heap_57 : decode cX12_heap 57 = .ok (.iconst (-1), 1) := by decide +kernel
theorem dX12_heap_58 : decode cX12_heap 58 = .ok (.goto 14, 3) := by decide +kernel
theorem dX12_heap_61 : decode cX12_heap 61 = .ok (.aload_n 0, 1) := by decide +kernel
theorem dX12_heap_62 : decode cX12_heap 62 = .ok (.getfield 86, 3) := by decide +kernel
theorem dX12_heap_65 : decode cX12_heap 65 = .ok (.bipush 100, 2) := by decide +kernel
theorem dX12_heap_67 : decode cX12_heap 67 = .ok (.iload_n 1, 1) := by decide +kernel
theorem dX12_heap_68 : decode cX12_heap 68 = .ok (.imul, 1) := by decide +kernel
theorem dX12_heap_69 : decode cX12_heap 69 = .ok (.iload_n 2, 1) := by decide +kernel
theorem dX12_heap_70 : decode cX12_heap 70 = .ok (.iadd, 1) := by decide +kernel
theorem dX12_heap_71 : decode cX12_heap 71 = .ok (.iaload, 1) := by decide +kernel
theorem dX12_heap_72 : decode cX12_heap 72 = .ok (.ireturn, 1) := by decide +kernel
def wX12_heap (l1 : Int32) (l2 : Int32) (μ : km_S) (Q : Int32 → km_S → Prop) : Prop := ∀ μ1, μ1 = km_si μ 1 0 → wX12_isReach l1 μ1 fun r3 μ2 => ((¬ r3 = 0 → vp_in l1 10 ∧ ((¬ (km_a μ2 22 l1.toNatClampNeg) = 0 → ((¬ l2 = (-1) → ((l2 < 0 → Q (-1) μ2) ∧
        (¬ (l2 < 0) → vp_in l1 10 ∧ ((l2 < (km_a μ2 29 l1.toNatClampNeg) → vp_in ((100 * l1) + l2) 1000 ∧ Q (km_a μ2 30 ((100 * l1) + l2).toNatClampNeg) μ2) ∧
          (¬ (l2 < (km_a μ2 29 l1.toNatClampNeg)) → Q (-1) μ2))))) ∧
      (l2 = (-1) → vp_in l1 10 ∧ Q (km_a μ2 29 l1.toNatClampNeg) μ2))) ∧
    ((km_a μ2 22 l1.toNatClampNeg) = 0 → Q (-1) μ2))) ∧
  (r3 = 0 → wX12_fail μ2 fun r14 μ13 => Q r14 μ13))
set_option maxRecDepth 100000 in
set_option maxHeartbeats 4000000 in
theorem hc_X12_heap (l : Launch) (G : km_G) (l1 : Int32) (l2 : Int32) (μ : km_S) (Q : Int32 → km_S → Prop) (h : wX12_heap l1 l2 μ Q) : km_M l G yX12_heap cX12_heap 3 (some .int) (1) (21) [.ref (G.1 0), .int l1, .int l2] μ (km_Qi G Q) := by
  refine km_enter (by decide) rfl (Nat.le_of_ble_eq_true rfl) ?_
  intro p e s m below meth c ls F hr hlocks C hl
  have hl : lv_has ls 3 [(0, .ref (G.1 0)), (1, .int l1), (2, .int l2)] := hl
  obtain ⟨H, eH⟩ : ∃ z9, z9 = s.heap := ⟨_, rfl⟩
  obtain ⟨locs, eL⟩ : ∃ z9 : List Loc, z9 = [] := ⟨_, rfl⟩
  rw [← eH, ← eL] at C
  rw [← eH, ← eL]
  refine lv_aload_n F.1 F.2.1 dX12_heap_0 rfl (lv_at hl 0 rfl) ?_
  refine lv_iconst (v := 0) F.1 F.2.1 dX12_heap_1 (by decide) ?_
  refine kp_code F C dX12_heap_2 (fun H locs C => ?_)
  generalize eμ1 : km_si μ 1 0 = μ1 at C
  have h := h μ1 eμ1.symm
  refine lv_aload_n F.1 F.2.1 dX12_heap_5 rfl (lv_at hl 0 rfl) ?_
  refine lv_iload_n F.1 F.2.1 dX12_heap_6 rfl (lv_at hl 1 rfl) ?_
  refine kc_X12_isReach F C h (Nat.le_of_ble_eq_true rfl) (Nat.le_of_ble_eq_true rfl) hl.1 (by simp [Value.category]) dX12_heap_7 (fun r3 μ2 H locs h C => ?_)
  refine lv_if_ne (tgt := 18) F.1 F.2.1 dX12_heap_10 (by decide) (fun c4 => ?_) (fun c4 => ?_)
  · have h := h.1 c4
    refine lv_aload_n F.1 F.2.1 dX12_heap_18 rfl (lv_at hl 0 rfl) ?_
    refine kg_hasBoom F C dX12_heap_19 ?_
    refine lv_iload_n F.1 F.2.1 dX12_heap_22 rfl (lv_at hl 1 rfl) ?_
    obtain ⟨hn5, h⟩ := h
    refine kl_hasBoom F C hn5 dX12_heap_23 ?_
    refine lv_if_ne (tgt := 29) F.1 F.2.1 dX12_heap_24 (by decide) (fun c6 => ?_) (fun c6 => ?_)
    · have h := h.1 c6
      refine lv_iload_n F.1 F.2.1 dX12_heap_29 rfl (lv_at hl 2 rfl) ?_
      refine lv_iconst (v := (-1)) F.1 F.2.1 dX12_heap_30 (by decide) ?_
      refine lv_icmp_ne (tgt := 43) F.1 F.2.1 dX12_heap_31 (by decide) (fun c7 => ?_) (fun c7 => ?_)
      · have h := h.1 c7
        refine lv_iload_n F.1 F.2.1 dX12_heap_43 rfl (lv_at hl 2 rfl) ?_
        refine lv_if_lt (tgt := 57) F.1 F.2.1 dX12_heap_44 (by decide) (fun c8 => ?_) (fun c8 => ?_)
        · have h := h.1 c8
          refine lv_iconst (v := (-1)) F.1 F.2.1 dX12_heap_57 (by decide) ?_
          refine lv_goto (tgt := 72) F.1 F.2.1 dX12_heap_58 (by decide) ?_
          exact km_iret F C hr hlocks h dX12_heap_72
        · have h := h.2 c8
          refine lv_iload_n F.1 F.2.1 dX12_heap_47 rfl (lv_at hl 2 rfl) ?_
          refine lv_aload_n F.1 F.2.1 dX12_heap_48 rfl (lv_at hl 0 rfl) ?_
          refine kg_heaped F C dX12_heap_49 ?_
          refine lv_iload_n F.1 F.2.1 dX12_heap_52 rfl (lv_at hl 1 rfl) ?_
          obtain ⟨hn9, h⟩ := h
          refine kl_heaped F C hn9 dX12_heap_53 ?_
          refine lv_icmp_lt (tgt := 61) F.1 F.2.1 dX12_heap_54 (by decide) (fun c10 => ?_) (fun c10 => ?_)
          · have h := h.1 c10
            refine lv_aload_n F.1 F.2.1 dX12_heap_61 rfl (lv_at hl 0 rfl) ?_
            refine kg_heap F C dX12_heap_62 ?_
            refine lv_bipush (v := 100) F.1 F.2.1 dX12_heap_65 (by decide) ?_
            refine lv_iload_n F.1 F.2.1 dX12_heap_67 rfl (lv_at hl 1 rfl) ?_
            refine lv_imul (x := 100) (y := l1) F.1 F.2.1 dX12_heap_68 ?_
            refine lv_iload_n F.1 F.2.1 dX12_heap_69 rfl (lv_at hl 2 rfl) ?_
            refine lv_iadd (x := 100 * l1) (y := l2) F.1 F.2.1 dX12_heap_70 ?_
            obtain ⟨hn11, h⟩ := h
            refine kl_heap F C hn11 dX12_heap_71 ?_
            exact km_iret F C hr hlocks h dX12_heap_72
          · have h := h.2 c10
            refine lv_iconst (v := (-1)) F.1 F.2.1 dX12_heap_57 (by decide) ?_
            refine lv_goto (tgt := 72) F.1 F.2.1 dX12_heap_58 (by decide) ?_
            exact km_iret F C hr hlocks h dX12_heap_72
      · have h := h.2 c7
        refine lv_aload_n F.1 F.2.1 dX12_heap_34 rfl (lv_at hl 0 rfl) ?_
        refine kg_heaped F C dX12_heap_35 ?_
        refine lv_iload_n F.1 F.2.1 dX12_heap_38 rfl (lv_at hl 1 rfl) ?_
        obtain ⟨hn12, h⟩ := h
        refine kl_heaped F C hn12 dX12_heap_39 ?_
        refine lv_goto (tgt := 72) F.1 F.2.1 dX12_heap_40 (by decide) ?_
        exact km_iret F C hr hlocks h dX12_heap_72
    · have h := h.2 c6
      refine lv_iconst (v := (-1)) F.1 F.2.1 dX12_heap_27 (by decide) ?_
      exact km_iret F C hr hlocks h dX12_heap_28
  · have h := h.2 c4
    refine lv_aload_n F.1 F.2.1 dX12_heap_13 rfl (lv_at hl 0 rfl) ?_
    refine kc_X12_fail F C h (Nat.le_of_ble_eq_true rfl) (Nat.le_of_ble_eq_true rfl) hl.1 (by simp [Value.category]) dX12_heap_14 (fun r14 μ13 H locs h C => ?_)
    exact km_iret F C hr hlocks h dX12_heap_17
section
variable {p : Program} {l : Launch} {e : Env} {R : Room} {s : State} {m : MethodId} {args : Array Value} {below : List Frame} {meth : Method} {c : Code} {H : Heap} {locs : List Loc} {Q : State → Prop}
variable {cc : ByteArray} {pc nL : Nat} {ls : Array Slot} {rest : List Value} {G : km_G} {μ : km_S}
end
theorem dX12_water_0 : decode cX12_water 0 = .ok (.aload_n 0, 1) := by decide +kernel
theorem dX12_water_1 : decode cX12_water 1 = .ok (.iconst 0, 1) := by decide +kernel
theorem dX12_water_2 : decode cX12_water 2 = .ok (.putfield 173, 3) := by decide +kernel
theorem dX12_water_5 : decode cX12_water 5 = .ok (.aload_n 0, 1) := by decide +kernel
theorem dX12_water_6 : decode cX12_water 6 = .ok (.iload_n 1, 1) := by decide +kernel
theorem dX12_water_7 : decode cX12_water 7 = .ok (.invokevirtual 179, 3) := by decide +kernel
theorem dX12_water_10 : decode cX12_water 10 = .ok (.ifCond .ne 8, 3) := by decide +kernel
theorem dX12_water_13 : decode cX12_water 13 = .ok (.aload_n 0, 1) := by decide +kernel
theorem dX12_water_14 : decode cX12_water 14 = .ok (.invokevirtual 183, 3) := by decide +kernel
theorem dX12_water_17 : decode cX12_water 17 = .ok (.ireturn, 1) := by decide +kernel
theorem dX12_water_18 : decode cX12_water 18 = .ok (.iload_n 2, 1) := by decide +kernel
theorem dX12_water_19 : decode cX12_water 19 = .ok (.tableswitch 81 0 4 #[33, 40, 47, 67, 74], 33) := by decide +kernel
theorem dX12_water_52 : decode cX12_water 52 = .ok (.aload_n 0, 1) := by decide +kernel
theorem dX12_water_53 : decode cX12_water 53 = .ok (.getfield 49, 3) := by decide +kernel
theorem dX12_water_56 : decode cX12_water 56 = .ok (.iload_n 1, 1) := by decide +kernel
theorem dX12_water_57 : decode cX12_water 57 = .ok (.iaload, 1) := by decide +kernel
theorem dX12_water_58 : decode cX12_water 58 = .ok (.ireturn, 1) := by decide +kernel
theorem dX12_water_59 : decode cX12_water 59 = .ok (.aload_n 0, 1) := by decide +kernel
theorem dX12_water_60 : decode cX12_water 60 = .ok (.getfield 52, 3) := by decide +kernel
theorem dX12_water_63 : decode cX12_water 63 = .ok (.iload_n 1, 1) := by decide +kernel
theorem dX12_water_64 : decode cX12_water 64 = .ok (.iaload, 1) := by decide +kernel
theorem dX12_water_65 : decode cX12_water 65 = .ok (.ireturn, 1) := by decide +kernel
theorem dX12_water_66 : decode cX12_water 66 = .ok (.aload_n 0, 1) := by decide +kernel
theorem dX12_water_67 : decode cX12_water 67 = .ok (.getfield 58, 3) := by decide +kernel
theorem dX12_water_70 : decode cX12_water 70 = .ok (.iload_n 1, 1) := by decide +kernel
theorem dX12_water_71 : decode cX12_water 71 = .ok (.baload, 1) := by decide +kernel
theorem dX12_water_72 : decode cX12_water 72 = .ok (.ifCond .eq 12, 3) := by decide +kernel
theorem dX12_water_75 : decode cX12_water 75 = .ok (.aload_n 0, 1) := by decide +kernel
theorem dX12_water_76 : decode cX12_water 76 = .ok (.getfield 71, 3) := by decide +kernel
theorem dX12_water_79 : decode cX12_water 79 = .ok (.iload_n 1, 1) := by decide +kernel
theorem dX12_water_80 : decode cX12_water 80 = .ok (.iaload, 1) := by decide +kernel
theorem dX12_water_81 : decode cX12_water 81 = .ok (.goto 4, 3) := by decide +kernel
theorem dX12_water_84 : decode cX12_water 84 = .ok (.iconst (-1), 1) := by decide +kernel
theorem dX12_water_85 : decode cX12_water 85 = .ok (.ireturn, 1) := by decide +kernel
theorem dX12_water_86 : decode cX12_water 86 = .ok (.aload_n 0, 1) := by decide +kernel
theorem dX12_water_87 : decode cX12_water 87 = .ok (.getfield 33, 3) := by decide +kernel
theorem dX12_water_90 : decode cX12_water 90 = .ok (.iload_n 1, 1) := by decide +kernel
theorem dX12_water_91 : decode cX12_water 91 = .ok (.iaload, 1) := by decide +kernel
theorem dX12_water_92 : decode cX12_water 92 = .ok (.ireturn, 1) := by decide +kernel
theorem dX12_water_93 : decode cX12_water 93 = .ok (.aload_n 0, 1) := by decide +kernel
theorem dX12_water_94 : decode cX12_water 94 = .ok (.getfield 37, 3) := by decide +kernel
theorem dX12_water_97 : decode cX12_water 97 = .ok (.iload_n 1, 1) := by decide +kernel
theorem dX12_water_98 : decode cX12_water 98 = .ok (.iaload, 1) := by decide +kernel
theorem dX12_water_99 : decode cX12_water 99 = .ok (.ireturn, 1) := by decide +kernel
theorem dX12_water_100 : decode cX12_water 100 = .ok (.aload_n 0, 1) := by decide +kernel
theorem dX12_water_101 : decode cX12_water 101 = .ok (.invokevirtual 183, 3) := by decide +kernel
theorem dX12_water_104 : decode cX12_water 104 = .ok (.ireturn, 1) := by decide +kernel
def wX12_water (l1 : Int32) (l2 : Int32) (μ : km_S) (Q : Int32 → km_S → Prop) : Prop := ∀ μ1, μ1 = km_si μ 1 0 → wX12_isReach l1 μ1 fun r3 μ2 => ((¬ r3 = 0 → ∀ v5, v5 = l2 → ((v5 = 0 → vp_in l1 10 ∧ Q (km_a μ2 18 l1.toNatClampNeg) μ2) ∧
    ((v5 = 1 → vp_in l1 10 ∧ Q (km_a μ2 19 l1.toNatClampNeg) μ2) ∧
    ((v5 = 2 → vp_in l1 10 ∧ (((km_a μ2 21 l1.toNatClampNeg) = 0 → Q (-1) μ2) ∧
      (¬ ((km_a μ2 21 l1.toNatClampNeg) = 0) → vp_in l1 10 ∧ Q (km_a μ2 25 l1.toNatClampNeg) μ2))) ∧
    ((v5 = 3 → vp_in l1 10 ∧ Q (km_a μ2 13 l1.toNatClampNeg) μ2) ∧
    ((v5 = 4 → vp_in l1 10 ∧ Q (km_a μ2 14 l1.toNatClampNeg) μ2) ∧
    (¬ v5 = 0 → ¬ v5 = 1 → ¬ v5 = 2 → ¬ v5 = 3 → ¬ v5 = 4 → wX12_fail μ2 fun r19 μ18 => Q r19 μ18))))))) ∧
  (r3 = 0 → wX12_fail μ2 fun r21 μ20 => Q r21 μ20))
set_option maxRecDepth 100000 in
set_option maxHeartbeats 4000000 in
theorem hc_X12_water (l : Launch) (G : km_G) (l1 : Int32) (l2 : Int32) (μ : km_S) (Q : Int32 → km_S → Prop) (h : wX12_water l1 l2 μ Q) : km_M l G yX12_water cX12_water 3 (some .int) (1) (21) [.ref (G.1 0), .int l1, .int l2] μ (km_Qi G Q) := by
  refine km_enter (by decide) rfl (Nat.le_of_ble_eq_true rfl) ?_
  intro p e s m below meth c ls F hr hlocks C hl
  have hl : lv_has ls 3 [(0, .ref (G.1 0)), (1, .int l1), (2, .int l2)] := hl
  obtain ⟨H, eH⟩ : ∃ z9, z9 = s.heap := ⟨_, rfl⟩
  obtain ⟨locs, eL⟩ : ∃ z9 : List Loc, z9 = [] := ⟨_, rfl⟩
  rw [← eH, ← eL] at C
  rw [← eH, ← eL]
  refine lv_aload_n F.1 F.2.1 dX12_water_0 rfl (lv_at hl 0 rfl) ?_
  refine lv_iconst (v := 0) F.1 F.2.1 dX12_water_1 (by decide) ?_
  refine kp_code F C dX12_water_2 (fun H locs C => ?_)
  generalize eμ1 : km_si μ 1 0 = μ1 at C
  have h := h μ1 eμ1.symm
  refine lv_aload_n F.1 F.2.1 dX12_water_5 rfl (lv_at hl 0 rfl) ?_
  refine lv_iload_n F.1 F.2.1 dX12_water_6 rfl (lv_at hl 1 rfl) ?_
  refine kc_X12_isReach F C h (Nat.le_of_ble_eq_true rfl) (Nat.le_of_ble_eq_true rfl) hl.1 (by simp [Value.category]) dX12_water_7 (fun r3 μ2 H locs h C => ?_)
  refine lv_if_ne (tgt := 18) F.1 F.2.1 dX12_water_10 (by decide) (fun c4 => ?_) (fun c4 => ?_)
  · have h := h.1 c4
    refine lv_iload_n F.1 F.2.1 dX12_water_18 rfl (lv_at hl 2 rfl) ?_
    refine lv_topi (fun v5 ev5 => ?_)
    have h := h v5 ev5
    by_cases c6 : v5 = 0
    · have h := h.1 c6
      refine lv_tableIn (off := 33) (tgt := 52) F.1 F.2.1 dX12_water_19 (by rw [c6]; decide) (by rw [c6]; decide) (by rw [c6]; decide) (by decide) ?_
      refine lv_aload_n F.1 F.2.1 dX12_water_52 rfl (lv_at hl 0 rfl) ?_
      refine kg_flow F C dX12_water_53 ?_
      refine lv_iload_n F.1 F.2.1 dX12_water_56 rfl (lv_at hl 1 rfl) ?_
      obtain ⟨hn7, h⟩ := h
      refine kl_flow F C hn7 dX12_water_57 ?_
      exact km_iret F C hr hlocks h dX12_water_58
    have h := h.2
    by_cases c8 : v5 = 1
    · have h := h.1 c8
      refine lv_tableIn (off := 40) (tgt := 59) F.1 F.2.1 dX12_water_19 (by rw [c8]; decide) (by rw [c8]; decide) (by rw [c8]; decide) (by decide) ?_
      refine lv_aload_n F.1 F.2.1 dX12_water_59 rfl (lv_at hl 0 rfl) ?_
      refine kg_out F C dX12_water_60 ?_
      refine lv_iload_n F.1 F.2.1 dX12_water_63 rfl (lv_at hl 1 rfl) ?_
      obtain ⟨hn9, h⟩ := h
      refine kl_out F C hn9 dX12_water_64 ?_
      exact km_iret F C hr hlocks h dX12_water_65
    have h := h.2
    by_cases c10 : v5 = 2
    · have h := h.1 c10
      refine lv_tableIn (off := 47) (tgt := 66) F.1 F.2.1 dX12_water_19 (by rw [c10]; decide) (by rw [c10]; decide) (by rw [c10]; decide) (by decide) ?_
      refine lv_aload_n F.1 F.2.1 dX12_water_66 rfl (lv_at hl 0 rfl) ?_
      refine kg_hasDam F C dX12_water_67 ?_
      refine lv_iload_n F.1 F.2.1 dX12_water_70 rfl (lv_at hl 1 rfl) ?_
      obtain ⟨hn11, h⟩ := h
      refine kl_hasDam F C hn11 dX12_water_71 ?_
      refine lv_if_eq (tgt := 84) F.1 F.2.1 dX12_water_72 (by decide) (fun c12 => ?_) (fun c12 => ?_)
      · have h := h.1 c12
        refine lv_iconst (v := (-1)) F.1 F.2.1 dX12_water_84 (by decide) ?_
        exact km_iret F C hr hlocks h dX12_water_85
      · have h := h.2 c12
        refine lv_aload_n F.1 F.2.1 dX12_water_75 rfl (lv_at hl 0 rfl) ?_
        refine kg_store F C dX12_water_76 ?_
        refine lv_iload_n F.1 F.2.1 dX12_water_79 rfl (lv_at hl 1 rfl) ?_
        obtain ⟨hn13, h⟩ := h
        refine kl_store F C hn13 dX12_water_80 ?_
        refine lv_goto (tgt := 85) F.1 F.2.1 dX12_water_81 (by decide) ?_
        exact km_iret F C hr hlocks h dX12_water_85
    have h := h.2
    by_cases c14 : v5 = 3
    · have h := h.1 c14
      refine lv_tableIn (off := 67) (tgt := 86) F.1 F.2.1 dX12_water_19 (by rw [c14]; decide) (by rw [c14]; decide) (by rw [c14]; decide) (by decide) ?_
      refine lv_aload_n F.1 F.2.1 dX12_water_86 rfl (lv_at hl 0 rfl) ?_
      refine kg_next F C dX12_water_87 ?_
      refine lv_iload_n F.1 F.2.1 dX12_water_90 rfl (lv_at hl 1 rfl) ?_
      obtain ⟨hn15, h⟩ := h
      refine kl_next F C hn15 dX12_water_91 ?_
      exact km_iret F C hr hlocks h dX12_water_92
    have h := h.2
    by_cases c16 : v5 = 4
    · have h := h.1 c16
      refine lv_tableIn (off := 74) (tgt := 93) F.1 F.2.1 dX12_water_19 (by rw [c16]; decide) (by rw [c16]; decide) (by rw [c16]; decide) (by decide) ?_
      refine lv_aload_n F.1 F.2.1 dX12_water_93 rfl (lv_at hl 0 rfl) ?_
      refine kg_length F C dX12_water_94 ?_
      refine lv_iload_n F.1 F.2.1 dX12_water_97 rfl (lv_at hl 1 rfl) ?_
      obtain ⟨hn17, h⟩ := h
      refine kl_length F C hn17 dX12_water_98 ?_
      exact km_iret F C hr hlocks h dX12_water_99
    have h := h.2
    have ic6 : v5.toInt ≠ 0 := fun h9 => c6 (Int32.toInt_inj.mp (h9.trans (by decide)))
    have ic8 : v5.toInt ≠ 1 := fun h9 => c8 (Int32.toInt_inj.mp (h9.trans (by decide)))
    have ic10 : v5.toInt ≠ 2 := fun h9 => c10 (Int32.toInt_inj.mp (h9.trans (by decide)))
    have ic14 : v5.toInt ≠ 3 := fun h9 => c14 (Int32.toInt_inj.mp (h9.trans (by decide)))
    have ic16 : v5.toInt ≠ 4 := fun h9 => c16 (Int32.toInt_inj.mp (h9.trans (by decide)))
    have h := h c6 c8 c10 c14 c16
    refine lv_tableOut (tgt := 100) F.1 F.2.1 dX12_water_19 (by omega) (by decide) ?_
    refine lv_aload_n F.1 F.2.1 dX12_water_100 rfl (lv_at hl 0 rfl) ?_
    refine kc_X12_fail F C h (Nat.le_of_ble_eq_true rfl) (Nat.le_of_ble_eq_true rfl) hl.1 (by simp [Value.category]) dX12_water_101 (fun r19 μ18 H locs h C => ?_)
    exact km_iret F C hr hlocks h dX12_water_104
  · have h := h.2 c4
    refine lv_aload_n F.1 F.2.1 dX12_water_13 rfl (lv_at hl 0 rfl) ?_
    refine kc_X12_fail F C h (Nat.le_of_ble_eq_true rfl) (Nat.le_of_ble_eq_true rfl) hl.1 (by simp [Value.category]) dX12_water_14 (fun r21 μ20 H locs h C => ?_)
    exact km_iret F C hr hlocks h dX12_water_17
section
variable {p : Program} {l : Launch} {e : Env} {R : Room} {s : State} {m : MethodId} {args : Array Value} {below : List Frame} {meth : Method} {c : Code} {H : Heap} {locs : List Loc} {Q : State → Prop}
variable {cc : ByteArray} {pc nL : Nat} {ls : Array Slot} {rest : List Value} {G : km_G} {μ : km_S}
end
theorem dX12_waters_0 : decode cX12_waters 0 = .ok (.aload_n 0, 1) := by decide +kernel
theorem dX12_waters_1 : decode cX12_waters 1 = .ok (.iconst 0, 1) := by decide +kernel
theorem dX12_waters_2 : decode cX12_waters 2 = .ok (.putfield 173, 3) := by decide +kernel
theorem dX12_waters_5 : decode cX12_waters 5 = .ok (.iload_n 1, 1) := by decide +kernel
theorem dX12_waters_6 : decode cX12_waters 6 = .ok (.ifCond .ne 10, 3) := by decide +kernel
theorem dX12_waters_9 : decode cX12_waters 9 = .ok (.aload_n 0, 1) := by decide +kernel
theorem dX12_waters_10 : decode cX12_waters 10 = .ok (.getfield 329, 3) := by decide +kernel
theorem dX12_waters_13 : decode cX12_waters 13 = .ok (.goto 20, 3) := by decide +kernel
theorem dX12_waters_16 : decode cX12_waters 16 = .ok (.iload_n 1, 1) := by decide +kernel
theorem dX12_waters_17 : decode cX12_waters 17 = .ok (.iconst 1, 1) := by decide +kernel
theorem dX12_waters_18 : decode cX12_waters 18 = .ok (.if_icmp .ne 10, 3) := by decide +kernel
theorem dX12_waters_21 : decode cX12_waters 21 = .ok (.aload_n 0, 1) := by decide +kernel
theorem dX12_waters_22 : decode cX12_waters 22 = .ok (.getfield 341, 3) := by decide +kernel
theorem dX12_waters_25 : decode cX12_waters 25 = .ok (.goto 8, 3) := by decide +kernel
theorem dX12_waters_28 : decode cX12_waters 28 = .ok (.aload_n 0, 1) := by decide +kernel
theorem dX12_waters_29 : decode cX12_waters 29 = .ok (.invokevirtual 183, 3) := by decide +kernel
theorem dX12_waters_32 : decode cX12_waters 32 = .ok (.i2l, 1) := by decide +kernel
theorem dX12_waters_33 : decode cX12_waters 33 = .ok (.lreturn, 1) := by decide +kernel
def wX12_waters (l1 : Int32) (μ : km_S) (Q : Int64 → km_S → Prop) : Prop := ∀ μ1, μ1 = km_si μ 1 0 → ((¬ l1 = 0 → ((¬ l1 = 1 → wX12_fail μ1 fun r5 μ4 => Q r5.toInt64 μ4) ∧
    (l1 = 1 → Q (km_l μ1 12) μ1))) ∧
  (l1 = 0 → Q (km_l μ1 11) μ1))
set_option maxRecDepth 100000 in
set_option maxHeartbeats 4000000 in
theorem hc_X12_waters (l : Launch) (G : km_G) (l1 : Int32) (μ : km_S) (Q : Int64 → km_S → Prop) (h : wX12_waters l1 μ Q) : km_M l G yX12_waters cX12_waters 2 (some .long) (1) (20) [.ref (G.1 0), .int l1] μ (km_Ql G Q) := by
  refine km_enter (by decide) rfl (Nat.le_of_ble_eq_true rfl) ?_
  intro p e s m below meth c ls F hr hlocks C hl
  have hl : lv_has ls 2 [(0, .ref (G.1 0)), (1, .int l1)] := hl
  obtain ⟨H, eH⟩ : ∃ z9, z9 = s.heap := ⟨_, rfl⟩
  obtain ⟨locs, eL⟩ : ∃ z9 : List Loc, z9 = [] := ⟨_, rfl⟩
  rw [← eH, ← eL] at C
  rw [← eH, ← eL]
  refine lv_aload_n F.1 F.2.1 dX12_waters_0 rfl (lv_at hl 0 rfl) ?_
  refine lv_iconst (v := 0) F.1 F.2.1 dX12_waters_1 (by decide) ?_
  refine kp_code F C dX12_waters_2 (fun H locs C => ?_)
  generalize eμ1 : km_si μ 1 0 = μ1 at C
  have h := h μ1 eμ1.symm
  refine lv_iload_n F.1 F.2.1 dX12_waters_5 rfl (lv_at hl 1 rfl) ?_
  refine lv_if_ne (tgt := 16) F.1 F.2.1 dX12_waters_6 (by decide) (fun c2 => ?_) (fun c2 => ?_)
  · have h := h.1 c2
    refine lv_iload_n F.1 F.2.1 dX12_waters_16 rfl (lv_at hl 1 rfl) ?_
    refine lv_iconst (v := 1) F.1 F.2.1 dX12_waters_17 (by decide) ?_
    refine lv_icmp_ne (tgt := 28) F.1 F.2.1 dX12_waters_18 (by decide) (fun c3 => ?_) (fun c3 => ?_)
    · have h := h.1 c3
      refine lv_aload_n F.1 F.2.1 dX12_waters_28 rfl (lv_at hl 0 rfl) ?_
      refine kc_X12_fail F C h (Nat.le_of_ble_eq_true rfl) (Nat.le_of_ble_eq_true rfl) hl.1 (by simp [Value.category]) dX12_waters_29 (fun r5 μ4 H locs h C => ?_)
      refine lv_i2l F.1 F.2.1 dX12_waters_32 rfl ?_
      exact km_lret F C hr hlocks h dX12_waters_33
    · have h := h.2 c3
      refine lv_aload_n F.1 F.2.1 dX12_waters_21 rfl (lv_at hl 0 rfl) ?_
      refine kg_toSea F C dX12_waters_22 ?_
      refine lv_goto (tgt := 33) F.1 F.2.1 dX12_waters_25 (by decide) ?_
      exact km_lret F C hr hlocks h dX12_waters_33
  · have h := h.2 c2
    refine lv_aload_n F.1 F.2.1 dX12_waters_9 rfl (lv_at hl 0 rfl) ?_
    refine kg_melted F C dX12_waters_10 ?_
    refine lv_goto (tgt := 33) F.1 F.2.1 dX12_waters_13 (by decide) ?_
    exact km_lret F C hr hlocks h dX12_waters_33
section
variable {p : Program} {l : Launch} {e : Env} {R : Room} {s : State} {m : MethodId} {args : Array Value} {below : List Frame} {meth : Method} {c : Code} {H : Heap} {locs : List Loc} {Q : State → Prop}
variable {cc : ByteArray} {pc nL : Nat} {ls : Array Slot} {rest : List Value} {G : km_G} {μ : km_S}
end
theorem dX12_board_0 : decode cX12_board 0 = .ok (.aload_n 0, 1) := by decide +kernel
theorem dX12_board_1 : decode cX12_board 1 = .ok (.iconst 0, 1) := by decide +kernel
theorem dX12_board_2 : decode cX12_board 2 = .ok (.putfield 173, 3) := by decide +kernel
theorem dX12_board_5 : decode cX12_board 5 = .ok (.iload_n 1, 1) := by decide +kernel
theorem dX12_board_6 : decode cX12_board 6 = .ok (.ifCond .lt 11, 3) := by decide +kernel
theorem dX12_board_9 : decode cX12_board 9 = .ok (.iload_n 1, 1) := by decide +kernel
theorem dX12_board_10 : decode cX12_board 10 = .ok (.aload_n 0, 1) := by decide +kernel
theorem dX12_board_11 : decode cX12_board 11 = .ok (.getfield 360, 3) := by decide +kernel
theorem dX12_board_14 : decode cX12_board 14 = .ok (.if_icmp .lt 10, 3) := by decide +kernel
theorem dX12_board_17 : decode cX12_board 17 = .ok (.aload_n 0, 1) := by decide +kernel
theorem dX12_board_18 : decode cX12_board 18 = .ok (.invokevirtual 183, 3) := by decide +kernel
theorem dX12_board_21 : decode cX12_board 21 = .ok (.goto 9, 3) := by decide +kernel
theorem dX12_board_24 : decode cX12_board 24 = .ok (.aload_n 0, 1) := by decide +kernel
theorem dX12_board_25 : decode cX12_board 25 = .ok (.getfield 121, 3) := by decide +kernel
theorem dX12_board_28 : decode cX12_board 28 = .ok (.iload_n 1, 1) := by decide +kernel
theorem dX12_board_29 : decode cX12_board 29 = .ok (.iaload, 1) := by decide +kernel
theorem dX12_board_30 : decode cX12_board 30 = .ok (.ireturn, 1) := by decide +kernel
def wX12_board_17 (Q : Int32 → km_S → Prop) (μ : km_S) : Prop := wX12_fail μ fun r2 μ1 => Q r2 μ1
def wX12_board (l1 : Int32) (μ : km_S) (Q : Int32 → km_S → Prop) : Prop := ∀ μ3, μ3 = km_si μ 1 0 → ((l1 < 0 → wX12_board_17 Q μ3) ∧
  (¬ (l1 < 0) → ((l1 < (km_i μ3 6) → vp_in l1 3600 ∧ Q (km_a μ3 43 l1.toNatClampNeg) μ3) ∧
    (¬ (l1 < (km_i μ3 6)) → wX12_board_17 Q μ3))))
set_option maxRecDepth 100000 in
set_option maxHeartbeats 4000000 in
theorem tX12_board_17 (l : Launch) (G : km_G) {p : Program} {e : Env} {s : State} {m : MethodId} {args : Array Value} {below : List Frame} {meth : Method} {c : Code} (F : CallFix p m c cX12_board 2 s args kt_ RX12) (hr : meth.sig.returnType = (some .int)) (hlocks : meth.locks = false) (Q : Int32 → km_S → Prop) : ∀ (μ : km_S) (H : Heap) (locs : List Loc) (ls : Array Slot), wX12_board_17 Q μ → km_X G s H locs μ → lv_has ls 2 [(0, .ref (G.1 0))] → W p l e { frames := 1, cells := 0, slots := 0, locals := 20 } s m args below meth c H locs 0 0 (MQ below (km_Qi G Q) args s 0 0 (km_A G)) (F0 m 17 ls []) := by
  intro  μ H locs ls h C hl
  refine lv_aload_n F.1 F.2.1 dX12_board_17 rfl (lv_at hl 0 rfl) ?_
  refine kc_X12_fail F C h (Nat.le_of_ble_eq_true rfl) (Nat.le_of_ble_eq_true rfl) hl.1 (by simp [Value.category]) dX12_board_18 (fun r2 μ1 H locs h C => ?_)
  refine lv_goto (tgt := 30) F.1 F.2.1 dX12_board_21 (by decide) ?_
  exact km_iret F C hr hlocks h dX12_board_30
set_option maxRecDepth 100000 in
set_option maxHeartbeats 4000000 in
theorem hc_X12_board (l : Launch) (G : km_G) (l1 : Int32) (μ : km_S) (Q : Int32 → km_S → Prop) (h : wX12_board l1 μ Q) : km_M l G yX12_board cX12_board 2 (some .int) (1) (20) [.ref (G.1 0), .int l1] μ (km_Qi G Q) := by
  refine km_enter (by decide) rfl (Nat.le_of_ble_eq_true rfl) ?_
  intro p e s m below meth c ls F hr hlocks C hl
  have hl : lv_has ls 2 [(0, .ref (G.1 0)), (1, .int l1)] := hl
  obtain ⟨H, eH⟩ : ∃ z9, z9 = s.heap := ⟨_, rfl⟩
  obtain ⟨locs, eL⟩ : ∃ z9 : List Loc, z9 = [] := ⟨_, rfl⟩
  rw [← eH, ← eL] at C
  rw [← eH, ← eL]
  refine lv_aload_n F.1 F.2.1 dX12_board_0 rfl (lv_at hl 0 rfl) ?_
  refine lv_iconst (v := 0) F.1 F.2.1 dX12_board_1 (by decide) ?_
  refine kp_code F C dX12_board_2 (fun H locs C => ?_)
  generalize eμ3 : km_si μ 1 0 = μ3 at C
  have h := h μ3 eμ3.symm
  refine lv_iload_n F.1 F.2.1 dX12_board_5 rfl (lv_at hl 1 rfl) ?_
  refine lv_if_lt (tgt := 17) F.1 F.2.1 dX12_board_6 (by decide) (fun c4 => ?_) (fun c4 => ?_)
  · have h := h.1 c4
    exact tX12_board_17 l G F hr hlocks Q μ3 H locs ls h C (lv_sub hl [0] rfl)
  · have h := h.2 c4
    refine lv_iload_n F.1 F.2.1 dX12_board_9 rfl (lv_at hl 1 rfl) ?_
    refine lv_aload_n F.1 F.2.1 dX12_board_10 rfl (lv_at hl 0 rfl) ?_
    refine kg_boards F C dX12_board_11 ?_
    refine lv_icmp_lt (tgt := 24) F.1 F.2.1 dX12_board_14 (by decide) (fun c5 => ?_) (fun c5 => ?_)
    · have h := h.1 c5
      refine lv_aload_n F.1 F.2.1 dX12_board_24 rfl (lv_at hl 0 rfl) ?_
      refine kg_boardLog F C dX12_board_25 ?_
      refine lv_iload_n F.1 F.2.1 dX12_board_28 rfl (lv_at hl 1 rfl) ?_
      obtain ⟨hn6, h⟩ := h
      refine kl_boardLog F C hn6 dX12_board_29 ?_
      exact km_iret F C hr hlocks h dX12_board_30
    · have h := h.2 c5
      exact tX12_board_17 l G F hr hlocks Q μ3 H locs ls h C (lv_sub hl [0] rfl)
section
variable {p : Program} {l : Launch} {e : Env} {R : Room} {s : State} {m : MethodId} {args : Array Value} {below : List Frame} {meth : Method} {c : Code} {H : Heap} {locs : List Loc} {Q : State → Prop}
variable {cc : ByteArray} {pc nL : Nat} {ls : Array Slot} {rest : List Value} {G : km_G} {μ : km_S}
end
theorem dX12_paid_0 : decode cX12_paid 0 = .ok (.aload_n 0, 1) := by decide +kernel
theorem dX12_paid_1 : decode cX12_paid 1 = .ok (.iconst 0, 1) := by decide +kernel
theorem dX12_paid_2 : decode cX12_paid 2 = .ok (.putfield 173, 3) := by decide +kernel
theorem dX12_paid_5 : decode cX12_paid 5 = .ok (.iload_n 1, 1) := by decide +kernel
theorem dX12_paid_6 : decode cX12_paid 6 = .ok (.ifCond .lt 9, 3) := by decide +kernel
theorem dX12_paid_9 : decode cX12_paid 9 = .ok (.iload_n 1, 1) := by decide +kernel
theorem dX12_paid_10 : decode cX12_paid 10 = .ok (.bipush 15, 2) := by decide +kernel
theorem dX12_paid_12 : decode cX12_paid 12 = .ok (.if_icmp .le 11, 3) := by decide +kernel
theorem dX12_paid_15 : decode cX12_paid 15 = .ok (.aload_n 0, 1) := by decide +kernel
theorem dX12_paid_16 : decode cX12_paid 16 = .ok (.invokevirtual 183, 3) := by decide +kernel
theorem dX12_paid_19 : decode cX12_paid 19 = .ok (.i2l, 1) := by decide +kernel
theorem dX12_paid_20 : decode cX12_paid 20 = .ok (.goto 9, 3) := by decide +kernel
theorem dX12_paid_23 : decode cX12_paid 23 = .ok (.aload_n 0, 1) := by decide +kernel
theorem dX12_paid_24 : decode cX12_paid 24 = .ok (.getfield 145, 3) := by decide +kernel
theorem dX12_paid_27 : decode cX12_paid 27 = .ok (.iload_n 1, 1) := by decide +kernel
theorem dX12_paid_28 : decode cX12_paid 28 = .ok (.laload, 1) := by decide +kernel
theorem dX12_paid_29 : decode cX12_paid 29 = .ok (.lreturn, 1) := by decide +kernel
def wX12_paid_15 (Q : Int64 → km_S → Prop) (μ : km_S) : Prop := wX12_fail μ fun r2 μ1 => Q r2.toInt64 μ1
def wX12_paid (l1 : Int32) (μ : km_S) (Q : Int64 → km_S → Prop) : Prop := ∀ μ3, μ3 = km_si μ 1 0 → ((l1 < 0 → wX12_paid_15 Q μ3) ∧
  (¬ (l1 < 0) → ((l1 ≤ 15 → vp_in l1 16 ∧ Q (km_p μ3 l1.toNatClampNeg) μ3) ∧
    (¬ (l1 ≤ 15) → wX12_paid_15 Q μ3))))
set_option maxRecDepth 100000 in
set_option maxHeartbeats 4000000 in
theorem tX12_paid_15 (l : Launch) (G : km_G) {p : Program} {e : Env} {s : State} {m : MethodId} {args : Array Value} {below : List Frame} {meth : Method} {c : Code} (F : CallFix p m c cX12_paid 2 s args kt_ RX12) (hr : meth.sig.returnType = (some .long)) (hlocks : meth.locks = false) (Q : Int64 → km_S → Prop) : ∀ (μ : km_S) (H : Heap) (locs : List Loc) (ls : Array Slot), wX12_paid_15 Q μ → km_X G s H locs μ → lv_has ls 2 [(0, .ref (G.1 0))] → W p l e { frames := 1, cells := 0, slots := 0, locals := 20 } s m args below meth c H locs 0 0 (MQ below (km_Ql G Q) args s 0 0 (km_A G)) (F0 m 15 ls []) := by
  intro  μ H locs ls h C hl
  refine lv_aload_n F.1 F.2.1 dX12_paid_15 rfl (lv_at hl 0 rfl) ?_
  refine kc_X12_fail F C h (Nat.le_of_ble_eq_true rfl) (Nat.le_of_ble_eq_true rfl) hl.1 (by simp [Value.category]) dX12_paid_16 (fun r2 μ1 H locs h C => ?_)
  refine lv_i2l F.1 F.2.1 dX12_paid_19 rfl ?_
  refine lv_goto (tgt := 29) F.1 F.2.1 dX12_paid_20 (by decide) ?_
  exact km_lret F C hr hlocks h dX12_paid_29
set_option maxRecDepth 100000 in
set_option maxHeartbeats 4000000 in
theorem hc_X12_paid (l : Launch) (G : km_G) (l1 : Int32) (μ : km_S) (Q : Int64 → km_S → Prop) (h : wX12_paid l1 μ Q) : km_M l G yX12_paid cX12_paid 2 (some .long) (1) (20) [.ref (G.1 0), .int l1] μ (km_Ql G Q) := by
  refine km_enter (by decide) rfl (Nat.le_of_ble_eq_true rfl) ?_
  intro p e s m below meth c ls F hr hlocks C hl
  have hl : lv_has ls 2 [(0, .ref (G.1 0)), (1, .int l1)] := hl
  obtain ⟨H, eH⟩ : ∃ z9, z9 = s.heap := ⟨_, rfl⟩
  obtain ⟨locs, eL⟩ : ∃ z9 : List Loc, z9 = [] := ⟨_, rfl⟩
  rw [← eH, ← eL] at C
  rw [← eH, ← eL]
  refine lv_aload_n F.1 F.2.1 dX12_paid_0 rfl (lv_at hl 0 rfl) ?_
  refine lv_iconst (v := 0) F.1 F.2.1 dX12_paid_1 (by decide) ?_
  refine kp_code F C dX12_paid_2 (fun H locs C => ?_)
  generalize eμ3 : km_si μ 1 0 = μ3 at C
  have h := h μ3 eμ3.symm
  refine lv_iload_n F.1 F.2.1 dX12_paid_5 rfl (lv_at hl 1 rfl) ?_
  refine lv_if_lt (tgt := 15) F.1 F.2.1 dX12_paid_6 (by decide) (fun c4 => ?_) (fun c4 => ?_)
  · have h := h.1 c4
    exact tX12_paid_15 l G F hr hlocks Q μ3 H locs ls h C (lv_sub hl [0] rfl)
  · have h := h.2 c4
    refine lv_iload_n F.1 F.2.1 dX12_paid_9 rfl (lv_at hl 1 rfl) ?_
    refine lv_bipush (v := 15) F.1 F.2.1 dX12_paid_10 (by decide) ?_
    refine lv_icmp_le (tgt := 23) F.1 F.2.1 dX12_paid_12 (by decide) (fun c5 => ?_) (fun c5 => ?_)
    · have h := h.1 c5
      refine lv_aload_n F.1 F.2.1 dX12_paid_23 rfl (lv_at hl 0 rfl) ?_
      refine kg_paid F C dX12_paid_24 ?_
      refine lv_iload_n F.1 F.2.1 dX12_paid_27 rfl (lv_at hl 1 rfl) ?_
      obtain ⟨hn6, h⟩ := h
      refine kl_paid F C hn6 dX12_paid_28 ?_
      exact km_lret F C hr hlocks h dX12_paid_29
    · have h := h.2 c5
      exact tX12_paid_15 l G F hr hlocks Q μ3 H locs ls h C (lv_sub hl [0] rfl)
section
variable {p : Program} {l : Launch} {e : Env} {R : Room} {s : State} {m : MethodId} {args : Array Value} {below : List Frame} {meth : Method} {c : Code} {H : Heap} {locs : List Loc} {Q : State → Prop}
variable {cc : ByteArray} {pc nL : Nat} {ls : Array Slot} {rest : List Value} {G : km_G} {μ : km_S}
end
theorem dX12_count_0 : decode cX12_count 0 = .ok (.aload_n 0, 1) := by decide +kernel
theorem dX12_count_1 : decode cX12_count 1 = .ok (.iconst 0, 1) := by decide +kernel
theorem dX12_count_2 : decode cX12_count 2 = .ok (.putfield 173, 3) := by decide +kernel
theorem dX12_count_5 : decode cX12_count 5 = .ok (.iconst 0, 1) := by decide +kernel
theorem dX12_count_6 : decode cX12_count 6 = .ok (.istore_n 2, 1) := by decide +kernel
theorem dX12_count_7 : decode cX12_count 7 = .ok (.iconst 0, 1) := by decide +kernel
theorem dX12_count_8 : decode cX12_count 8 = .ok (.istore_n 3, 1) := by decide +kernel
theorem dX12_count_9 : decode cX12_count 9 = .ok (.iconst 0, 1) := by decide +kernel
theorem dX12_count_10 : decode cX12_count 10 = .ok (.istore 4, 2) := by decide +kernel
theorem dX12_count_12 : decode cX12_count 12 = .ok (.iload 4, 2) := by decide +kernel
theorem dX12_count_14 : decode cX12_count 14 = .ok (.bipush 120, 2) := by decide +kernel
theorem dX12_count_16 : decode cX12_count 16 = .ok (.if_icmp .ge 45, 3) := by decide +kernel
theorem dX12_count_19 : decode cX12_count 19 = .ok (.iload_n 2, 1) := by decide +kernel
theorem dX12_count_20 : decode cX12_count 20 = .ok (.aload_n 0, 1) := by decide +kernel
theorem dX12_count_21 : decode cX12_count 21 = .ok (.getfield 95, 3) := by decide +kernel
theorem dX12_count_24 : decode cX12_count 24 = .ok (.iload 4, 2) := by decide +kernel
theorem dX12_count_26 : decode cX12_count 26 = .ok (.baload, 1) := by decide +kernel
theorem dX12_count_27 : decode cX12_count 27 = .ok (.ifCond .eq 7, 3) := by decide +kernel
theorem dX12_count_30 : decode cX12_count 30 = .ok (.iconst 1, 1) := by decide +kernel
theorem dX12_count_31 : decode cX12_count 31 = .ok (.goto 4, 3) := by decide +kernel
theorem dX12_count_34 : decode cX12_count 34 = .ok (.iconst 0, 1) := by decide +kernel
theorem dX12_count_35 : decode cX12_count 35 = .ok (.iadd, 1) := by decide +kernel
theorem dX12_count_36 : decode cX12_count 36 = .ok (.istore_n 2, 1) := by decide +kernel
theorem dX12_count_37 : decode cX12_count 37 = .ok (.iload_n 3, 1) := by decide +kernel
theorem dX12_count_38 : decode cX12_count 38 = .ok (.aload_n 0, 1) := by decide +kernel
theorem dX12_count_39 : decode cX12_count 39 = .ok (.getfield 98, 3) := by decide +kernel
theorem dX12_count_42 : decode cX12_count 42 = .ok (.iload 4, 2) := by decide +kernel
theorem dX12_count_44 : decode cX12_count 44 = .ok (.baload, 1) := by decide +kernel
theorem dX12_count_45 : decode cX12_count 45 = .ok (.ifCond .eq 7, 3) := by decide +kernel
theorem dX12_count_48 : decode cX12_count 48 = .ok (.iconst 1, 1) := by decide +kernel
theorem dX12_count_49 : decode cX12_count 49 = .ok (.goto 4, 3) := by decide +kernel
theorem dX12_count_52 : decode cX12_count 52 = .ok (.iconst 0, 1) := by decide +kernel
theorem dX12_count_53 : decode cX12_count 53 = .ok (.iadd, 1) := by decide +kernel
theorem dX12_count_54 : decode cX12_count 54 = .ok (.istore_n 3, 1) := by decide +kernel
theorem dX12_count_55 : decode cX12_count 55 = .ok (.iinc 4 1, 3) := by decide +kernel
theorem dX12_count_58 : decode cX12_count 58 = .ok (.goto (-46), 3) := by decide +kernel
theorem dX12_count_61 : decode cX12_count 61 = .ok (.iload_n 1, 1) := by decide +kernel
theorem dX12_count_62 : decode cX12_count 62 = .ok (.tableswitch 98 0 9 #[54, 59, 64, 69, 74, 79, 84, 86, 88, 93], 54) := by decide +kernel
theorem dX12_count_116 : decode cX12_count 116 = .ok (.aload_n 0, 1) := by decide +kernel
theorem dX12_count_117 : decode cX12_count 117 = .ok (.getfield 192, 3) := by decide +kernel
theorem dX12_count_120 : decode cX12_count 120 = .ok (.ireturn, 1) := by decide +kernel
theorem dX12_count_121 : decode cX12_count 121 = .ok (.aload_n 0, 1) := by decide +kernel
theorem dX12_count_122 : decode cX12_count 122 = .ok (.getfield 176, 3) := by decide +kernel
theorem dX12_count_125 : decode cX12_count 125 = .ok (.ireturn, 1) := by decide +kernel
theorem dX12_count_126 : decode cX12_count 126 = .ok (.aload_n 0, 1) := by decide +kernel
theorem dX12_count_127 : decode cX12_count 127 = .ok (.getfield 303, 3) := by decide +kernel
theorem dX12_count_130 : decode cX12_count 130 = .ok (.ireturn, 1) := by decide +kernel
theorem dX12_count_131 : decode cX12_count 131 = .ok (.aload_n 0, 1) := by decide +kernel
theorem dX12_count_132 : decode cX12_count 132 = .ok (.getfield 238, 3) := by decide +kernel
theorem dX12_count_135 : decode cX12_count 135 = .ok (.ireturn, 1) := by decide +kernel
theorem dX12_count_136 : decode cX12_count 136 = .ok (.aload_n 0, 1) := by decide +kernel
theorem dX12_count_137 : decode cX12_count 137 = .ok (.getfield 360, 3) := by decide +kernel
theorem dX12_count_140 : decode cX12_count 140 = .ok (.ireturn, 1) := by decide +kernel
theorem dX12_count_141 : decode cX12_count 141 = .ok (.aload_n 0, 1) := by decide +kernel
theorem dX12_count_142 : decode cX12_count 142 = .ok (.getfield 189, 3) := by decide +kernel
theorem dX12_count_145 : decode cX12_count 145 = .ok (.ireturn, 1) := by decide +kernel
theorem dX12_count_146 : decode cX12_count 146 = .ok (.iload_n 2, 1) := by decide +kernel
theorem dX12_count_147 : decode cX12_count 147 = .ok (.ireturn, 1) := by decide +kernel
theorem dX12_count_148 : decode cX12_count 148 = .ok (.iload_n 3, 1) := by decide +kernel
theorem dX12_count_149 : decode cX12_count 149 = .ok (.ireturn, 1) := by decide +kernel
theorem dX12_count_150 : decode cX12_count 150 = .ok (.aload_n 0, 1) := by decide +kernel
theorem dX12_count_151 : decode cX12_count 151 = .ok (.getfield 354, 3) := by decide +kernel
theorem dX12_count_154 : decode cX12_count 154 = .ok (.ireturn, 1) := by decide +kernel
theorem dX12_count_155 : decode cX12_count 155 = .ok (.aload_n 0, 1) := by decide +kernel
theorem dX12_count_156 : decode cX12_count 156 = .ok (.getfield 195, 3) := by decide +kernel
theorem dX12_count_159 : decode cX12_count 159 = .ok (.ireturn, 1) := by decide +kernel
theorem dX12_count_160 : decode cX12_count 160 = .ok (.aload_n 0, 1) := by decide +kernel
theorem dX12_count_161 : decode cX12_count 161 = .ok (.invokevirtual 183, 3) := by decide +kernel
theorem dX12_count_164 : decode cX12_count 164 = .ok (.ireturn, 1) := by decide +kernel
def wX12_count_53 (k12 : Int32 → Int32 → Int32 → Int32 → km_S → Prop) (Q : Int32 → km_S → Prop) (l1 : Int32) (l2 : Int32) (l4 : Int32) (s0 : Int32) (s1 : Int32) (μ : km_S) : Prop := ∀ v1, v1 = s1 + s0 → ∀ v2 : Int32, v2 = l4 + 1 → k12 l1 l2 v1 v2 μ
def wX12_count_35 (k12 : Int32 → Int32 → Int32 → Int32 → km_S → Prop) (Q : Int32 → km_S → Prop) (l1 : Int32) (l3 : Int32) (l4 : Int32) (s0 : Int32) (s1 : Int32) (μ : km_S) : Prop := ∀ v3, v3 = s1 + s0 → vp_in l4 120 ∧ (((km_a μ 34 l4.toNatClampNeg) = 0 → wX12_count_53 k12 Q l1 v3 l4 0 l3 μ) ∧
  (¬ ((km_a μ 34 l4.toNatClampNeg) = 0) → wX12_count_53 k12 Q l1 v3 l4 1 l3 μ))
def wX12_count_12 (k61 : Int32 → Int32 → Int32 → km_S → Prop) (Q : Int32 → km_S → Prop) : Nat → Int32 → Int32 → Int32 → Int32 → km_S → Prop
  | 0, _, _, _, _, _ => False
  | n + 1, l1, l2, l3, l4, μ => ((120 ≤ l4 → k61 l1 l2 l3 μ) ∧
    (¬ (120 ≤ l4) → vp_in l4 120 ∧ (((km_a μ 33 l4.toNatClampNeg) = 0 → wX12_count_35 (wX12_count_12 k61 Q n) Q l1 l3 l4 0 l2 μ) ∧
      (¬ ((km_a μ 33 l4.toNatClampNeg) = 0) → wX12_count_35 (wX12_count_12 k61 Q n) Q l1 l3 l4 1 l2 μ))))
def wX12_count_61 (Q : Int32 → km_S → Prop) (l1 : Int32) (l2 : Int32) (l3 : Int32) (μ : km_S) : Prop := ∀ v9, v9 = l1 → ((v9 = 0 → Q (km_i μ 2) μ) ∧
  ((v9 = 1 → Q (km_i μ 3) μ) ∧
  ((v9 = 2 → Q (km_i μ 4) μ) ∧
  ((v9 = 3 → Q (km_i μ 5) μ) ∧
  ((v9 = 4 → Q (km_i μ 6) μ) ∧
  ((v9 = 5 → Q (km_i μ 7) μ) ∧
  ((v9 = 6 → Q l2 μ) ∧
  ((v9 = 7 → Q l3 μ) ∧
  ((v9 = 8 → Q (km_i μ 8) μ) ∧
  ((v9 = 9 → Q (km_i μ 9) μ) ∧
  (¬ v9 = 0 → ¬ v9 = 1 → ¬ v9 = 2 → ¬ v9 = 3 → ¬ v9 = 4 → ¬ v9 = 5 → ¬ v9 = 6 → ¬ v9 = 7 → ¬ v9 = 8 → ¬ v9 = 9 → wX12_fail μ fun r21 μ20 => Q r21 μ20)))))))))))
def wX12_count (l1 : Int32) (μ : km_S) (Q : Int32 → km_S → Prop) : Prop := ∀ μ22, μ22 = km_si μ 1 0 → ∃ j, wX12_count_12 (wX12_count_61 Q) Q j l1 0 0 0 μ22
set_option maxRecDepth 100000 in
set_option maxHeartbeats 4000000 in
theorem tX12_count_53 (l : Launch) (G : km_G) {p : Program} {e : Env} {s : State} {m : MethodId} {args : Array Value} {below : List Frame} {meth : Method} {c : Code} (F : CallFix p m c cX12_count 5 s args kt_ RX12) (hr : meth.sig.returnType = (some .int)) (hlocks : meth.locks = false) (Q : Int32 → km_S → Prop) (k12 : Int32 → Int32 → Int32 → Int32 → km_S → Prop) (hk12 : ∀ (l1 : Int32) (l2 : Int32) (l3 : Int32) (l4 : Int32) (μ : km_S) (H : Heap) (locs : List Loc) (ls : Array Slot), k12 l1 l2 l3 l4 μ → km_X G s H locs μ → lv_has ls 5 [(0, .ref (G.1 0)), (1, .int l1), (2, .int l2), (3, .int l3), (4, .int l4)] → W p l e { frames := 1, cells := 0, slots := 0, locals := 20 } s m args below meth c H locs 0 0 (MQ below (km_Qi G Q) args s 0 0 (km_A G)) (F0 m 12 ls [])) : ∀ (l1 : Int32) (l2 : Int32) (l4 : Int32) (s0 : Int32) (s1 : Int32) (μ : km_S) (H : Heap) (locs : List Loc) (ls : Array Slot), wX12_count_53 k12 Q l1 l2 l4 s0 s1 μ → km_X G s H locs μ → lv_has ls 5 [(0, .ref (G.1 0)), (1, .int l1), (2, .int l2), (4, .int l4)] → W p l e { frames := 1, cells := 0, slots := 0, locals := 20 } s m args below meth c H locs 0 0 (MQ below (km_Qi G Q) args s 0 0 (km_A G)) (F0 m 53 ls [.int s0, .int s1]) := by
  intro l1 l2 l4 s0 s1 μ H locs ls h C hl
  refine lv_iadd (x := s1) (y := s0) F.1 F.2.1 dX12_count_53 ?_
  refine lv_topi (fun v1 ev1 => ?_)
  have h := h v1 ev1
  refine lv_istore_n (lv' := [(3, .int v1), (0, .ref (G.1 0)), (1, .int l1), (2, .int l2), (4, .int l4)]) F.1 F.2.1 dX12_count_54 rfl hl (by decide) rfl (fun ls hl => ?_)
  obtain ⟨v2, ev2⟩ : ∃ z9 : Int32, z9 = l4 + 1 := ⟨_, rfl⟩
  have h := h v2 ev2
  refine lv_iinc (v := v2) (lv' := [(4, .int v2), (3, .int v1), (0, .ref (G.1 0)), (1, .int l1), (2, .int l2)]) F.1 F.2.1 dX12_count_55 hl (k := 4) rfl (by rw [ev2]; rfl) (by decide) rfl (fun ls hl => ?_)
  refine lv_goto (tgt := 12) F.1 F.2.1 dX12_count_58 (by decide) ?_
  exact hk12 l1 l2 v1 v2 μ H locs ls h C (lv_sub hl [2, 3, 4, 1, 0] rfl)
set_option maxRecDepth 100000 in
set_option maxHeartbeats 4000000 in
theorem tX12_count_35 (l : Launch) (G : km_G) {p : Program} {e : Env} {s : State} {m : MethodId} {args : Array Value} {below : List Frame} {meth : Method} {c : Code} (F : CallFix p m c cX12_count 5 s args kt_ RX12) (hr : meth.sig.returnType = (some .int)) (hlocks : meth.locks = false) (Q : Int32 → km_S → Prop) (k12 : Int32 → Int32 → Int32 → Int32 → km_S → Prop) (hk12 : ∀ (l1 : Int32) (l2 : Int32) (l3 : Int32) (l4 : Int32) (μ : km_S) (H : Heap) (locs : List Loc) (ls : Array Slot), k12 l1 l2 l3 l4 μ → km_X G s H locs μ → lv_has ls 5 [(0, .ref (G.1 0)), (1, .int l1), (2, .int l2), (3, .int l3), (4, .int l4)] → W p l e { frames := 1, cells := 0, slots := 0, locals := 20 } s m args below meth c H locs 0 0 (MQ below (km_Qi G Q) args s 0 0 (km_A G)) (F0 m 12 ls [])) : ∀ (l1 : Int32) (l3 : Int32) (l4 : Int32) (s0 : Int32) (s1 : Int32) (μ : km_S) (H : Heap) (locs : List Loc) (ls : Array Slot), wX12_count_35 k12 Q l1 l3 l4 s0 s1 μ → km_X G s H locs μ → lv_has ls 5 [(0, .ref (G.1 0)), (1, .int l1), (3, .int l3), (4, .int l4)] → W p l e { frames := 1, cells := 0, slots := 0, locals := 20 } s m args below meth c H locs 0 0 (MQ below (km_Qi G Q) args s 0 0 (km_A G)) (F0 m 35 ls [.int s0, .int s1]) := by
  intro l1 l3 l4 s0 s1 μ H locs ls h C hl
  refine lv_iadd (x := s1) (y := s0) F.1 F.2.1 dX12_count_35 ?_
  refine lv_topi (fun v3 ev3 => ?_)
  have h := h v3 ev3
  refine lv_istore_n (lv' := [(2, .int v3), (0, .ref (G.1 0)), (1, .int l1), (3, .int l3), (4, .int l4)]) F.1 F.2.1 dX12_count_36 rfl hl (by decide) rfl (fun ls hl => ?_)
  refine lv_iload_n F.1 F.2.1 dX12_count_37 rfl (lv_at hl 3 rfl) ?_
  refine lv_aload_n F.1 F.2.1 dX12_count_38 rfl (lv_at hl 1 rfl) ?_
  refine kg_isKnown F C dX12_count_39 ?_
  refine lv_iload F.1 F.2.1 dX12_count_42 (lv_at hl 4 rfl) ?_
  obtain ⟨hn4, h⟩ := h
  refine kl_isKnown F C hn4 dX12_count_44 ?_
  refine lv_if_eq (tgt := 52) F.1 F.2.1 dX12_count_45 (by decide) (fun c5 => ?_) (fun c5 => ?_)
  · have h := h.1 c5
    refine lv_iconst (v := 0) F.1 F.2.1 dX12_count_52 (by decide) ?_
    exact tX12_count_53 l G F hr hlocks Q k12 hk12 l1 v3 l4 0 l3 μ H locs ls h C (lv_sub hl [1, 2, 0, 4] rfl)
  · have h := h.2 c5
    refine lv_iconst (v := 1) F.1 F.2.1 dX12_count_48 (by decide) ?_
    refine lv_goto (tgt := 53) F.1 F.2.1 dX12_count_49 (by decide) ?_
    exact tX12_count_53 l G F hr hlocks Q k12 hk12 l1 v3 l4 1 l3 μ H locs ls h C (lv_sub hl [1, 2, 0, 4] rfl)
set_option maxRecDepth 100000 in
set_option maxHeartbeats 4000000 in
theorem tX12_count_12 (l : Launch) (G : km_G) {p : Program} {e : Env} {s : State} {m : MethodId} {args : Array Value} {below : List Frame} {meth : Method} {c : Code} (F : CallFix p m c cX12_count 5 s args kt_ RX12) (hr : meth.sig.returnType = (some .int)) (hlocks : meth.locks = false) (Q : Int32 → km_S → Prop) (k61 : Int32 → Int32 → Int32 → km_S → Prop) (hk61 : ∀ (l1 : Int32) (l2 : Int32) (l3 : Int32) (μ : km_S) (H : Heap) (locs : List Loc) (ls : Array Slot), k61 l1 l2 l3 μ → km_X G s H locs μ → lv_has ls 5 [(0, .ref (G.1 0)), (1, .int l1), (2, .int l2), (3, .int l3)] → W p l e { frames := 1, cells := 0, slots := 0, locals := 20 } s m args below meth c H locs 0 0 (MQ below (km_Qi G Q) args s 0 0 (km_A G)) (F0 m 61 ls [])) : ∀ (n : Nat) (l1 : Int32) (l2 : Int32) (l3 : Int32) (l4 : Int32) (μ : km_S) (H : Heap) (locs : List Loc) (ls : Array Slot), wX12_count_12 k61 Q n l1 l2 l3 l4 μ → km_X G s H locs μ → lv_has ls 5 [(0, .ref (G.1 0)), (1, .int l1), (2, .int l2), (3, .int l3), (4, .int l4)] → W p l e { frames := 1, cells := 0, slots := 0, locals := 20 } s m args below meth c H locs 0 0 (MQ below (km_Qi G Q) args s 0 0 (km_A G)) (F0 m 12 ls []) := by
  intro n
  induction n with
  | zero => intro l1 l2 l3 l4 μ H locs ls h; exact h.elim
  | succ n ih =>
    intro l1 l2 l3 l4 μ H locs ls h C hl
    refine lv_iload F.1 F.2.1 dX12_count_12 (lv_at hl 4 rfl) ?_
    refine lv_bipush (v := 120) F.1 F.2.1 dX12_count_14 (by decide) ?_
    refine lv_icmp_ge (tgt := 61) F.1 F.2.1 dX12_count_16 (by decide) (fun c6 => ?_) (fun c6 => ?_)
    · have h := h.1 c6
      exact hk61 l1 l2 l3 μ H locs ls h C (lv_sub hl [0, 1, 2, 3] rfl)
    · have h := h.2 c6
      refine lv_iload_n F.1 F.2.1 dX12_count_19 rfl (lv_at hl 2 rfl) ?_
      refine lv_aload_n F.1 F.2.1 dX12_count_20 rfl (lv_at hl 0 rfl) ?_
      refine kg_isJammed F C dX12_count_21 ?_
      refine lv_iload F.1 F.2.1 dX12_count_24 (lv_at hl 4 rfl) ?_
      obtain ⟨hn7, h⟩ := h
      refine kl_isJammed F C hn7 dX12_count_26 ?_
      refine lv_if_eq (tgt := 34) F.1 F.2.1 dX12_count_27 (by decide) (fun c8 => ?_) (fun c8 => ?_)
      · have h := h.1 c8
        refine lv_iconst (v := 0) F.1 F.2.1 dX12_count_34 (by decide) ?_
        exact tX12_count_35 l G F hr hlocks Q (wX12_count_12 k61 Q n) (fun l1 l2 l3 l4 μ9 H locs ls h C hl => ih l1 l2 l3 l4 μ9 H locs ls h C hl) l1 l3 l4 0 l2 μ H locs ls h C (lv_sub hl [0, 1, 3, 4] rfl)
      · have h := h.2 c8
        refine lv_iconst (v := 1) F.1 F.2.1 dX12_count_30 (by decide) ?_
        refine lv_goto (tgt := 35) F.1 F.2.1 dX12_count_31 (by decide) ?_
        exact tX12_count_35 l G F hr hlocks Q (wX12_count_12 k61 Q n) (fun l1 l2 l3 l4 μ9 H locs ls h C hl => ih l1 l2 l3 l4 μ9 H locs ls h C hl) l1 l3 l4 1 l2 μ H locs ls h C (lv_sub hl [0, 1, 3, 4] rfl)
set_option maxRecDepth 100000 in
set_option maxHeartbeats 4000000 in
theorem tX12_count_61 (l : Launch) (G : km_G) {p : Program} {e : Env} {s : State} {m : MethodId} {args : Array Value} {below : List Frame} {meth : Method} {c : Code} (F : CallFix p m c cX12_count 5 s args kt_ RX12) (hr : meth.sig.returnType = (some .int)) (hlocks : meth.locks = false) (Q : Int32 → km_S → Prop) : ∀ (l1 : Int32) (l2 : Int32) (l3 : Int32) (μ : km_S) (H : Heap) (locs : List Loc) (ls : Array Slot), wX12_count_61 Q l1 l2 l3 μ → km_X G s H locs μ → lv_has ls 5 [(0, .ref (G.1 0)), (1, .int l1), (2, .int l2), (3, .int l3)] → W p l e { frames := 1, cells := 0, slots := 0, locals := 20 } s m args below meth c H locs 0 0 (MQ below (km_Qi G Q) args s 0 0 (km_A G)) (F0 m 61 ls []) := by
  intro l1 l2 l3 μ H locs ls h C hl
  refine lv_iload_n F.1 F.2.1 dX12_count_61 rfl (lv_at hl 1 rfl) ?_
  refine lv_topi (fun v9 ev9 => ?_)
  have h := h v9 ev9
  by_cases c10 : v9 = 0
  · have h := h.1 c10
    refine lv_tableIn (off := 54) (tgt := 116) F.1 F.2.1 dX12_count_62 (by rw [c10]; decide) (by rw [c10]; decide) (by rw [c10]; decide) (by decide) ?_
    refine lv_aload_n F.1 F.2.1 dX12_count_116 rfl (lv_at hl 0 rfl) ?_
    refine kg_now F C dX12_count_117 ?_
    exact km_iret F C hr hlocks h dX12_count_120
  have h := h.2
  by_cases c11 : v9 = 1
  · have h := h.1 c11
    refine lv_tableIn (off := 59) (tgt := 121) F.1 F.2.1 dX12_count_62 (by rw [c11]; decide) (by rw [c11]; decide) (by rw [c11]; decide) (by decide) ?_
    refine lv_aload_n F.1 F.2.1 dX12_count_121 rfl (lv_at hl 0 rfl) ?_
    refine kg_reaches F C dX12_count_122 ?_
    exact km_iret F C hr hlocks h dX12_count_125
  have h := h.2
  by_cases c12 : v9 = 2
  · have h := h.1 c12
    refine lv_tableIn (off := 64) (tgt := 126) F.1 F.2.1 dX12_count_62 (by rw [c12]; decide) (by rw [c12]; decide) (by rw [c12]; decide) (by decide) ?_
    refine lv_aload_n F.1 F.2.1 dX12_count_126 rfl (lv_at hl 0 rfl) ?_
    refine kg_logs F C dX12_count_127 ?_
    exact km_iret F C hr hlocks h dX12_count_130
  have h := h.2
  by_cases c13 : v9 = 3
  · have h := h.1 c13
    refine lv_tableIn (off := 69) (tgt := 131) F.1 F.2.1 dX12_count_62 (by rw [c13]; decide) (by rw [c13]; decide) (by rw [c13]; decide) (by decide) ?_
    refine lv_aload_n F.1 F.2.1 dX12_count_131 rfl (lv_at hl 0 rfl) ?_
    refine kg_laws F C dX12_count_132 ?_
    exact km_iret F C hr hlocks h dX12_count_135
  have h := h.2
  by_cases c14 : v9 = 4
  · have h := h.1 c14
    refine lv_tableIn (off := 74) (tgt := 136) F.1 F.2.1 dX12_count_62 (by rw [c14]; decide) (by rw [c14]; decide) (by rw [c14]; decide) (by decide) ?_
    refine lv_aload_n F.1 F.2.1 dX12_count_136 rfl (lv_at hl 0 rfl) ?_
    refine kg_boards F C dX12_count_137 ?_
    exact km_iret F C hr hlocks h dX12_count_140
  have h := h.2
  by_cases c15 : v9 = 5
  · have h := h.1 c15
    refine lv_tableIn (off := 79) (tgt := 141) F.1 F.2.1 dX12_count_62 (by rw [c15]; decide) (by rw [c15]; decide) (by rw [c15]; decide) (by decide) ?_
    refine lv_aload_n F.1 F.2.1 dX12_count_141 rfl (lv_at hl 0 rfl) ?_
    refine kg_crews F C dX12_count_142 ?_
    exact km_iret F C hr hlocks h dX12_count_145
  have h := h.2
  by_cases c16 : v9 = 6
  · have h := h.1 c16
    refine lv_tableIn (off := 84) (tgt := 146) F.1 F.2.1 dX12_count_62 (by rw [c16]; decide) (by rw [c16]; decide) (by rw [c16]; decide) (by decide) ?_
    refine lv_iload_n F.1 F.2.1 dX12_count_146 rfl (lv_at hl 2 rfl) ?_
    exact km_iret F C hr hlocks h dX12_count_147
  have h := h.2
  by_cases c17 : v9 = 7
  · have h := h.1 c17
    refine lv_tableIn (off := 86) (tgt := 148) F.1 F.2.1 dX12_count_62 (by rw [c17]; decide) (by rw [c17]; decide) (by rw [c17]; decide) (by decide) ?_
    refine lv_iload_n F.1 F.2.1 dX12_count_148 rfl (lv_at hl 3 rfl) ?_
    exact km_iret F C hr hlocks h dX12_count_149
  have h := h.2
  by_cases c18 : v9 = 8
  · have h := h.1 c18
    refine lv_tableIn (off := 88) (tgt := 150) F.1 F.2.1 dX12_count_62 (by rw [c18]; decide) (by rw [c18]; decide) (by rw [c18]; decide) (by decide) ?_
    refine lv_aload_n F.1 F.2.1 dX12_count_150 rfl (lv_at hl 0 rfl) ?_
    refine kg_orders F C dX12_count_151 ?_
    exact km_iret F C hr hlocks h dX12_count_154
  have h := h.2
  by_cases c19 : v9 = 9
  · have h := h.1 c19
    refine lv_tableIn (off := 93) (tgt := 155) F.1 F.2.1 dX12_count_62 (by rw [c19]; decide) (by rw [c19]; decide) (by rw [c19]; decide) (by decide) ?_
    refine lv_aload_n F.1 F.2.1 dX12_count_155 rfl (lv_at hl 0 rfl) ?_
    refine kg_taped F C dX12_count_156 ?_
    exact km_iret F C hr hlocks h dX12_count_159
  have h := h.2
  have ic10 : v9.toInt ≠ 0 := fun h9 => c10 (Int32.toInt_inj.mp (h9.trans (by decide)))
  have ic11 : v9.toInt ≠ 1 := fun h9 => c11 (Int32.toInt_inj.mp (h9.trans (by decide)))
  have ic12 : v9.toInt ≠ 2 := fun h9 => c12 (Int32.toInt_inj.mp (h9.trans (by decide)))
  have ic13 : v9.toInt ≠ 3 := fun h9 => c13 (Int32.toInt_inj.mp (h9.trans (by decide)))
  have ic14 : v9.toInt ≠ 4 := fun h9 => c14 (Int32.toInt_inj.mp (h9.trans (by decide)))
  have ic15 : v9.toInt ≠ 5 := fun h9 => c15 (Int32.toInt_inj.mp (h9.trans (by decide)))
  have ic16 : v9.toInt ≠ 6 := fun h9 => c16 (Int32.toInt_inj.mp (h9.trans (by decide)))
  have ic17 : v9.toInt ≠ 7 := fun h9 => c17 (Int32.toInt_inj.mp (h9.trans (by decide)))
  have ic18 : v9.toInt ≠ 8 := fun h9 => c18 (Int32.toInt_inj.mp (h9.trans (by decide)))
  have ic19 : v9.toInt ≠ 9 := fun h9 => c19 (Int32.toInt_inj.mp (h9.trans (by decide)))
  have h := h c10 c11 c12 c13 c14 c15 c16 c17 c18 c19
  refine lv_tableOut (tgt := 160) F.1 F.2.1 dX12_count_62 (by omega) (by decide) ?_
  refine lv_aload_n F.1 F.2.1 dX12_count_160 rfl (lv_at hl 0 rfl) ?_
  refine kc_X12_fail F C h (Nat.le_of_ble_eq_true rfl) (Nat.le_of_ble_eq_true rfl) hl.1 (by simp [Value.category]) dX12_count_161 (fun r21 μ20 H locs h C => ?_)
  exact km_iret F C hr hlocks h dX12_count_164
set_option maxRecDepth 100000 in
set_option maxHeartbeats 4000000 in
theorem hc_X12_count (l : Launch) (G : km_G) (l1 : Int32) (μ : km_S) (Q : Int32 → km_S → Prop) (h : wX12_count l1 μ Q) : km_M l G yX12_count cX12_count 5 (some .int) (1) (20) [.ref (G.1 0), .int l1] μ (km_Qi G Q) := by
  refine km_enter (by decide) rfl (Nat.le_of_ble_eq_true rfl) ?_
  intro p e s m below meth c ls F hr hlocks C hl
  have hl : lv_has ls 5 [(0, .ref (G.1 0)), (1, .int l1)] := hl
  obtain ⟨H, eH⟩ : ∃ z9, z9 = s.heap := ⟨_, rfl⟩
  obtain ⟨locs, eL⟩ : ∃ z9 : List Loc, z9 = [] := ⟨_, rfl⟩
  rw [← eH, ← eL] at C
  rw [← eH, ← eL]
  refine lv_aload_n F.1 F.2.1 dX12_count_0 rfl (lv_at hl 0 rfl) ?_
  refine lv_iconst (v := 0) F.1 F.2.1 dX12_count_1 (by decide) ?_
  refine kp_code F C dX12_count_2 (fun H locs C => ?_)
  generalize eμ22 : km_si μ 1 0 = μ22 at C
  have h := h μ22 eμ22.symm
  refine lv_iconst (v := 0) F.1 F.2.1 dX12_count_5 (by decide) ?_
  refine lv_istore_n (lv' := [(2, .int 0), (0, .ref (G.1 0)), (1, .int l1)]) F.1 F.2.1 dX12_count_6 rfl hl (by decide) rfl (fun ls hl => ?_)
  refine lv_iconst (v := 0) F.1 F.2.1 dX12_count_7 (by decide) ?_
  refine lv_istore_n (lv' := [(3, .int 0), (2, .int 0), (0, .ref (G.1 0)), (1, .int l1)]) F.1 F.2.1 dX12_count_8 rfl hl (by decide) rfl (fun ls hl => ?_)
  refine lv_iconst (v := 0) F.1 F.2.1 dX12_count_9 (by decide) ?_
  refine lv_istore (lv' := [(4, .int 0), (3, .int 0), (2, .int 0), (0, .ref (G.1 0)), (1, .int l1)]) F.1 F.2.1 dX12_count_10 hl (by decide) rfl (fun ls hl => ?_)
  obtain ⟨n23, h⟩ := h
  exact tX12_count_12 l G F hr hlocks Q (wX12_count_61 Q) (tX12_count_61 l G F hr hlocks Q) n23 l1 0 0 0 μ22 H locs ls h C (lv_sub hl [3, 4, 2, 1, 0] rfl)
section
variable {p : Program} {l : Launch} {e : Env} {R : Room} {s : State} {m : MethodId} {args : Array Value} {below : List Frame} {meth : Method} {c : Code} {H : Heap} {locs : List Loc} {Q : State → Prop}
variable {cc : ByteArray} {pc nL : Nat} {ls : Array Slot} {rest : List Value} {G : km_G} {μ : km_S}
end

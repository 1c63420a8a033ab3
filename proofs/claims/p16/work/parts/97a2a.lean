def vX12_reach (l1 : Int32) (l2 : Int32) (l3 : Int32) (l4 : Int32) (μ : km_S) (Q : Int32 → km_S → Prop) : Prop := ∀ μ1, μ1 = km_si μ 1 0 → (((km_i μ1 3) = 10 → Q (-1) μ1) ∧ (¬ ((km_i μ1 3) = 10) → ((l1 < (-1) → Q (-1) μ1) ∧ (¬ (l1 < (-1)) → (((km_i μ1 3) ≤ l1 → Q (-1) μ1) ∧ (¬ ((km_i μ1 3) ≤ l1) → ((l2 < 1 → Q (-1) μ1) ∧ (¬ (l2 < 1) → ((12 < l2 → Q (-1) μ1) ∧ (¬ (12 < l2) → ((l3 < 1 → Q (-1) μ1) ∧ (¬ (l3 < 1) → ((20 < l3 → Q (-1) μ1) ∧ (¬ (20 < l3) → ((l4 < 0 → Q (-1) μ1) ∧ (¬ (l4 < 0) → ((l4 ≤ 1000 → vp_in (km_i μ1 3) 10 → ∀ μ12, μ12 = km_sa μ1 13 (km_i μ1 3).toNatClampNeg l1 → vp_in (km_i μ12 3) 10 → ∀ μ14, μ14 = km_sa μ12 14 (km_i μ12 3).toNatClampNeg l2 → vp_in (km_i μ14 3) 10 → ∀ μ16, μ16 = km_sa μ14 15 (km_i μ14 3).toNatClampNeg l3 → vp_in (km_i μ16 3) 10 → ∀ μ18, μ18 = km_sa μ16 16 (km_i μ16 3).toNatClampNeg l4 → ∀ μ19, μ19 = km_si μ18 3 ((km_i μ18 3) + 1) → Q ((km_i μ19 3) - 1) μ19) ∧ (¬ (l4 ≤ 1000) → Q (-1) μ1))))))))))))))))))
set_option maxRecDepth 100000 in
set_option maxHeartbeats 4000000 in
theorem jcX12_reach {Q Q' Q'' : Int32 → km_S → Prop} (hQ : ∀ y0 y1, Q y0 y1 → Q' y0 y1 → Q'' y0 y1) : ∀ (l1 : Int32) (l2 : Int32) (l3 : Int32) (l4 : Int32) (μ : km_S), wX12_reach l1 l2 l3 l4 μ Q → vX12_reach l1 l2 l3 l4 μ Q' → wX12_reach l1 l2 l3 l4 μ Q'' := by
  intro l1 l2 l3 l4 μ h v
  unfold wX12_reach at h
  unfold vX12_reach at v
  unfold wX12_reach
  intro μ1 e1
  have h := h μ1 e1
  have v := v μ1 e1
  refine ⟨?_, ?_⟩
  · have h := h.1
    have v := v.1
    intro e2
    have h := h e2
    have v := v e2
    exact hQ _ _ h v
  · have h := h.2
    have v := v.2
    intro e3
    have h := h e3
    have v := v e3
    refine ⟨?_, ?_⟩
    · have h := h.1
      have v := v.1
      intro e4
      have h := h e4
      have v := v e4
      exact hQ _ _ h v
    · have h := h.2
      have v := v.2
      intro e5
      have h := h e5
      have v := v e5
      refine ⟨?_, ?_⟩
      · have h := h.1
        have v := v.1
        intro e6
        have h := h e6
        have v := v e6
        exact hQ _ _ h v
      · have h := h.2
        have v := v.2
        intro e7
        have h := h e7
        have v := v e7
        refine ⟨?_, ?_⟩
        · have h := h.1
          have v := v.1
          intro e8
          have h := h e8
          have v := v e8
          exact hQ _ _ h v
        · have h := h.2
          have v := v.2
          intro e9
          have h := h e9
          have v := v e9
          refine ⟨?_, ?_⟩
          · have h := h.1
            have v := v.1
            intro e10
            have h := h e10
            have v := v e10
            exact hQ _ _ h v
          · have h := h.2
            have v := v.2
            intro e11
            have h := h e11
            have v := v e11
            refine ⟨?_, ?_⟩
            · have h := h.1
              have v := v.1
              intro e12
              have h := h e12
              have v := v e12
              exact hQ _ _ h v
            · have h := h.2
              have v := v.2
              intro e13
              have h := h e13
              have v := v e13
              refine ⟨?_, ?_⟩
              · have h := h.1
                have v := v.1
                intro e14
                have h := h e14
                have v := v e14
                exact hQ _ _ h v
              · have h := h.2
                have v := v.2
                intro e15
                have h := h e15
                have v := v e15
                refine ⟨?_, ?_⟩
                · have h := h.1
                  have v := v.1
                  intro e16
                  have h := h e16
                  have v := v e16
                  exact hQ _ _ h v
                · have h := h.2
                  have v := v.2
                  intro e17
                  have h := h e17
                  have v := v e17
                  refine ⟨?_, ?_⟩
                  · have h := h.1
                    have v := v.1
                    intro e18
                    have h := h e18
                    have v := v e18
                    refine ⟨h.1, ?_⟩
                    have v := v h.1
                    have h := h.2
                    intro μ12 e20
                    have h := h μ12 e20
                    have v := v μ12 e20
                    refine ⟨h.1, ?_⟩
                    have v := v h.1
                    have h := h.2
                    intro μ14 e22
                    have h := h μ14 e22
                    have v := v μ14 e22
                    refine ⟨h.1, ?_⟩
                    have v := v h.1
                    have h := h.2
                    intro μ16 e24
                    have h := h μ16 e24
                    have v := v μ16 e24
                    refine ⟨h.1, ?_⟩
                    have v := v h.1
                    have h := h.2
                    intro μ18 e26
                    have h := h μ18 e26
                    have v := v μ18 e26
                    intro μ19 e27
                    have h := h μ19 e27
                    have v := v μ19 e27
                    exact hQ _ _ h v
                  · have h := h.2
                    have v := v.2
                    intro e28
                    have h := h e28
                    have v := v e28
                    exact hQ _ _ h v
set_option maxRecDepth 100000 in
set_option maxHeartbeats 4000000 in
theorem jaX12_reach {Q Q' : Int32 → km_S → Prop} (hQ : ∀ y0 y1, Q y0 y1 → Q' y0 y1) : ∀ (l1 : Int32) (l2 : Int32) (l3 : Int32) (l4 : Int32) (μ : km_S), wX12_reach l1 l2 l3 l4 μ Q → vX12_reach l1 l2 l3 l4 μ Q' := by
  intro l1 l2 l3 l4 μ h
  unfold wX12_reach at h
  unfold vX12_reach
  intro μ1 e1
  have h := h μ1 e1
  refine ⟨?_, ?_⟩
  · have h := h.1
    intro e2
    have h := h e2
    exact hQ _ _ h
  · have h := h.2
    intro e3
    have h := h e3
    refine ⟨?_, ?_⟩
    · have h := h.1
      intro e4
      have h := h e4
      exact hQ _ _ h
    · have h := h.2
      intro e5
      have h := h e5
      refine ⟨?_, ?_⟩
      · have h := h.1
        intro e6
        have h := h e6
        exact hQ _ _ h
      · have h := h.2
        intro e7
        have h := h e7
        refine ⟨?_, ?_⟩
        · have h := h.1
          intro e8
          have h := h e8
          exact hQ _ _ h
        · have h := h.2
          intro e9
          have h := h e9
          refine ⟨?_, ?_⟩
          · have h := h.1
            intro e10
            have h := h e10
            exact hQ _ _ h
          · have h := h.2
            intro e11
            have h := h e11
            refine ⟨?_, ?_⟩
            · have h := h.1
              intro e12
              have h := h e12
              exact hQ _ _ h
            · have h := h.2
              intro e13
              have h := h e13
              refine ⟨?_, ?_⟩
              · have h := h.1
                intro e14
                have h := h e14
                exact hQ _ _ h
              · have h := h.2
                intro e15
                have h := h e15
                refine ⟨?_, ?_⟩
                · have h := h.1
                  intro e16
                  have h := h e16
                  exact hQ _ _ h
                · have h := h.2
                  intro e17
                  have h := h e17
                  refine ⟨?_, ?_⟩
                  · have h := h.1
                    intro e18
                    have h := h e18
                    intro e19
                    have h := h.2
                    intro μ12 e20
                    have h := h μ12 e20
                    intro e21
                    have h := h.2
                    intro μ14 e22
                    have h := h μ14 e22
                    intro e23
                    have h := h.2
                    intro μ16 e24
                    have h := h μ16 e24
                    intro e25
                    have h := h.2
                    intro μ18 e26
                    have h := h μ18 e26
                    intro μ19 e27
                    have h := h μ19 e27
                    exact hQ _ _ h
                  · have h := h.2
                    intro e28
                    have h := h e28
                    exact hQ _ _ h
set_option maxRecDepth 100000 in
set_option maxHeartbeats 4000000 in
theorem jfX12_reach {I : km_S → Prop} (W : gw_ I [1, 3, 13, 14, 15, 16]) {Q : Int32 → km_S → Prop} (hQ : ∀ y0 y1, I y1 → Q y0 y1) : ∀ (l1 : Int32) (l2 : Int32) (l3 : Int32) (l4 : Int32) (μ : km_S), I μ → vX12_reach l1 l2 l3 l4 μ Q := by
  intro l1 l2 l3 l4 μ i
  unfold vX12_reach
  intro μ1 e1
  have iμ1 : I μ1 := by rw [e1]; exact ((W _ i) 1 (by decide)).1 _
  refine ⟨?_, ?_⟩
  · intro e2
    exact hQ _ _ iμ1
  · intro e3
    refine ⟨?_, ?_⟩
    · intro e4
      exact hQ _ _ iμ1
    · intro e5
      refine ⟨?_, ?_⟩
      · intro e6
        exact hQ _ _ iμ1
      · intro e7
        refine ⟨?_, ?_⟩
        · intro e8
          exact hQ _ _ iμ1
        · intro e9
          refine ⟨?_, ?_⟩
          · intro e10
            exact hQ _ _ iμ1
          · intro e11
            refine ⟨?_, ?_⟩
            · intro e12
              exact hQ _ _ iμ1
            · intro e13
              refine ⟨?_, ?_⟩
              · intro e14
                exact hQ _ _ iμ1
              · intro e15
                refine ⟨?_, ?_⟩
                · intro e16
                  exact hQ _ _ iμ1
                · intro e17
                  refine ⟨?_, ?_⟩
                  · intro e18
                    intro e19
                    intro μ12 e20
                    have iμ12 : I μ12 := by rw [e20]; exact ((W _ iμ1) 13 (by decide)).2.1 _ _
                    intro e21
                    intro μ14 e22
                    have iμ14 : I μ14 := by rw [e22]; exact ((W _ iμ12) 14 (by decide)).2.1 _ _
                    intro e23
                    intro μ16 e24
                    have iμ16 : I μ16 := by rw [e24]; exact ((W _ iμ14) 15 (by decide)).2.1 _ _
                    intro e25
                    intro μ18 e26
                    have iμ18 : I μ18 := by rw [e26]; exact ((W _ iμ16) 16 (by decide)).2.1 _ _
                    intro μ19 e27
                    have iμ19 : I μ19 := by rw [e27]; exact ((W _ iμ18) 3 (by decide)).1 _
                    exact hQ _ _ iμ19
                  · intro e28
                    exact hQ _ _ iμ1
def vX12_dam (l1 : Int32) (l2 : Int32) (μ : km_S) (Q : Int32 → km_S → Prop) : Prop := ∀ μ1, μ1 = km_si μ 1 0 → vX12_isReach l1 μ1 (fun r3 μ2 => ((¬ r3 = 0 → ((l2 < 0 → Q 0 μ2) ∧ (¬ (l2 < 0) → ((l2 ≤ 100000 → vp_in l1 10 → ∀ μ8, μ8 = km_sa μ2 21 l1.toNatClampNeg (vp_nar .boolean 1) → vp_in l1 10 → ∀ μ10, μ10 = km_sa μ8 24 l1.toNatClampNeg l2 → Q 1 μ10) ∧ (¬ (l2 ≤ 100000) → Q 0 μ2))))) ∧ (r3 = 0 → vX12_fail μ2 (fun r12 μ11 => Q 0 μ11))))
set_option maxRecDepth 100000 in
set_option maxHeartbeats 4000000 in
theorem jcX12_dam {Q Q' Q'' : Int32 → km_S → Prop} (hQ : ∀ y0 y1, Q y0 y1 → Q' y0 y1 → Q'' y0 y1) : ∀ (l1 : Int32) (l2 : Int32) (μ : km_S), wX12_dam l1 l2 μ Q → vX12_dam l1 l2 μ Q' → wX12_dam l1 l2 μ Q'' := by
  intro l1 l2 μ h v
  unfold wX12_dam at h
  unfold vX12_dam at v
  unfold wX12_dam
  intro μ1 e1
  have h := h μ1 e1
  have v := v μ1 e1
  refine jcX12_isReach ?_ _ _ h v
  intro r3 μ2 h v
  refine ⟨?_, ?_⟩
  · have h := h.1
    have v := v.1
    intro e2
    have h := h e2
    have v := v e2
    refine ⟨?_, ?_⟩
    · have h := h.1
      have v := v.1
      intro e3
      have h := h e3
      have v := v e3
      exact hQ _ _ h v
    · have h := h.2
      have v := v.2
      intro e4
      have h := h e4
      have v := v e4
      refine ⟨?_, ?_⟩
      · have h := h.1
        have v := v.1
        intro e5
        have h := h e5
        have v := v e5
        refine ⟨h.1, ?_⟩
        have v := v h.1
        have h := h.2
        intro μ8 e7
        have h := h μ8 e7
        have v := v μ8 e7
        refine ⟨h.1, ?_⟩
        have v := v h.1
        have h := h.2
        intro μ10 e9
        have h := h μ10 e9
        have v := v μ10 e9
        exact hQ _ _ h v
      · have h := h.2
        have v := v.2
        intro e10
        have h := h e10
        have v := v e10
        exact hQ _ _ h v
  · have h := h.2
    have v := v.2
    intro e11
    have h := h e11
    have v := v e11
    refine jcX12_fail ?_ _ h v
    intro r12 μ11 h v
    exact hQ _ _ h v
set_option maxRecDepth 100000 in
set_option maxHeartbeats 4000000 in
theorem jaX12_dam {Q Q' : Int32 → km_S → Prop} (hQ : ∀ y0 y1, Q y0 y1 → Q' y0 y1) : ∀ (l1 : Int32) (l2 : Int32) (μ : km_S), wX12_dam l1 l2 μ Q → vX12_dam l1 l2 μ Q' := by
  intro l1 l2 μ h
  unfold wX12_dam at h
  unfold vX12_dam
  intro μ1 e1
  have h := h μ1 e1
  refine jaX12_isReach ?_ _ _ h
  intro r3 μ2 h
  refine ⟨?_, ?_⟩
  · have h := h.1
    intro e2
    have h := h e2
    refine ⟨?_, ?_⟩
    · have h := h.1
      intro e3
      have h := h e3
      exact hQ _ _ h
    · have h := h.2
      intro e4
      have h := h e4
      refine ⟨?_, ?_⟩
      · have h := h.1
        intro e5
        have h := h e5
        intro e6
        have h := h.2
        intro μ8 e7
        have h := h μ8 e7
        intro e8
        have h := h.2
        intro μ10 e9
        have h := h μ10 e9
        exact hQ _ _ h
      · have h := h.2
        intro e10
        have h := h e10
        exact hQ _ _ h
  · have h := h.2
    intro e11
    have h := h e11
    refine jaX12_fail ?_ _ h
    intro r12 μ11 h
    exact hQ _ _ h
set_option maxRecDepth 100000 in
set_option maxHeartbeats 4000000 in
theorem jfX12_dam {I : km_S → Prop} (W : gw_ I [1, 21, 24]) {Q : Int32 → km_S → Prop} (hQ : ∀ y0 y1, I y1 → Q y0 y1) : ∀ (l1 : Int32) (l2 : Int32) (μ : km_S), I μ → vX12_dam l1 l2 μ Q := by
  intro l1 l2 μ i
  unfold vX12_dam
  intro μ1 e1
  have iμ1 : I μ1 := by rw [e1]; exact ((W _ i) 1 (by decide)).1 _
  refine jfX12_isReach (I := I) (gw_sub W (by decide)) ?_ _ _ iμ1
  intro r3 μ2 iμ2
  refine ⟨?_, ?_⟩
  · intro e2
    refine ⟨?_, ?_⟩
    · intro e3
      exact hQ _ _ iμ2
    · intro e4
      refine ⟨?_, ?_⟩
      · intro e5
        intro e6
        intro μ8 e7
        have iμ8 : I μ8 := by rw [e7]; exact ((W _ iμ2) 21 (by decide)).2.1 _ _
        intro e8
        intro μ10 e9
        have iμ10 : I μ10 := by rw [e9]; exact ((W _ iμ8) 24 (by decide)).2.1 _ _
        exact hQ _ _ iμ10
      · intro e10
        exact hQ _ _ iμ2
  · intro e11
    refine jfX12_fail (I := I) (gw_sub W (by decide)) ?_ _ iμ2
    intro r12 μ11 iμ11
    exact hQ _ _ iμ11
def vX12_gate (l1 : Int32) (l2 : Int32) (μ : km_S) (Q : Int32 → km_S → Prop) : Prop := ∀ μ1, μ1 = km_si μ 1 0 → vX12_isReach l1 μ1 (fun r3 μ2 => ((¬ r3 = 0 → vp_in l1 10 → (((km_a μ2 21 l1.toNatClampNeg) = 0 → Q (-1) μ2) ∧ (¬ ((km_a μ2 21 l1.toNatClampNeg) = 0) → ((l2 < 0 → Q (-1) μ2) ∧ (¬ (l2 < 0) → ((l2 ≤ 1000 → vp_in l1 10 → ∀ v10, v10 = km_a μ2 26 l1.toNatClampNeg → vp_in l1 10 → ∀ μ12, μ12 = km_sa μ2 26 l1.toNatClampNeg l2 → Q v10 μ12) ∧ (¬ (l2 ≤ 1000) → Q (-1) μ2))))))) ∧ (r3 = 0 → vX12_fail μ2 (fun r14 μ13 => Q r14 μ13))))
set_option maxRecDepth 100000 in
set_option maxHeartbeats 4000000 in
theorem jcX12_gate {Q Q' Q'' : Int32 → km_S → Prop} (hQ : ∀ y0 y1, Q y0 y1 → Q' y0 y1 → Q'' y0 y1) : ∀ (l1 : Int32) (l2 : Int32) (μ : km_S), wX12_gate l1 l2 μ Q → vX12_gate l1 l2 μ Q' → wX12_gate l1 l2 μ Q'' := by
  intro l1 l2 μ h v
  unfold wX12_gate at h
  unfold vX12_gate at v
  unfold wX12_gate
  intro μ1 e1
  have h := h μ1 e1
  have v := v μ1 e1
  refine jcX12_isReach ?_ _ _ h v
  intro r3 μ2 h v
  refine ⟨?_, ?_⟩
  · have h := h.1
    have v := v.1
    intro e2
    have h := h e2
    have v := v e2
    refine ⟨h.1, ?_⟩
    have v := v h.1
    have h := h.2
    refine ⟨?_, ?_⟩
    · have h := h.1
      have v := v.1
      intro e4
      have h := h e4
      have v := v e4
      exact hQ _ _ h v
    · have h := h.2
      have v := v.2
      intro e5
      have h := h e5
      have v := v e5
      refine ⟨?_, ?_⟩
      · have h := h.1
        have v := v.1
        intro e6
        have h := h e6
        have v := v e6
        exact hQ _ _ h v
      · have h := h.2
        have v := v.2
        intro e7
        have h := h e7
        have v := v e7
        refine ⟨?_, ?_⟩
        · have h := h.1
          have v := v.1
          intro e8
          have h := h e8
          have v := v e8
          refine ⟨h.1, ?_⟩
          have v := v h.1
          have h := h.2
          intro v10 e10
          have h := h v10 e10
          have v := v v10 e10
          refine ⟨h.1, ?_⟩
          have v := v h.1
          have h := h.2
          intro μ12 e12
          have h := h μ12 e12
          have v := v μ12 e12
          exact hQ _ _ h v
        · have h := h.2
          have v := v.2
          intro e13
          have h := h e13
          have v := v e13
          exact hQ _ _ h v
  · have h := h.2
    have v := v.2
    intro e14
    have h := h e14
    have v := v e14
    refine jcX12_fail ?_ _ h v
    intro r14 μ13 h v
    exact hQ _ _ h v
set_option maxRecDepth 100000 in
set_option maxHeartbeats 4000000 in
theorem jaX12_gate {Q Q' : Int32 → km_S → Prop} (hQ : ∀ y0 y1, Q y0 y1 → Q' y0 y1) : ∀ (l1 : Int32) (l2 : Int32) (μ : km_S), wX12_gate l1 l2 μ Q → vX12_gate l1 l2 μ Q' := by
  intro l1 l2 μ h
  unfold wX12_gate at h
  unfold vX12_gate
  intro μ1 e1
  have h := h μ1 e1
  refine jaX12_isReach ?_ _ _ h
  intro r3 μ2 h
  refine ⟨?_, ?_⟩
  · have h := h.1
    intro e2
    have h := h e2
    intro e3
    have h := h.2
    refine ⟨?_, ?_⟩
    · have h := h.1
      intro e4
      have h := h e4
      exact hQ _ _ h
    · have h := h.2
      intro e5
      have h := h e5
      refine ⟨?_, ?_⟩
      · have h := h.1
        intro e6
        have h := h e6
        exact hQ _ _ h
      · have h := h.2
        intro e7
        have h := h e7
        refine ⟨?_, ?_⟩
        · have h := h.1
          intro e8
          have h := h e8
          intro e9
          have h := h.2
          intro v10 e10
          have h := h v10 e10
          intro e11
          have h := h.2
          intro μ12 e12
          have h := h μ12 e12
          exact hQ _ _ h
        · have h := h.2
          intro e13
          have h := h e13
          exact hQ _ _ h
  · have h := h.2
    intro e14
    have h := h e14
    refine jaX12_fail ?_ _ h
    intro r14 μ13 h
    exact hQ _ _ h
set_option maxRecDepth 100000 in
set_option maxHeartbeats 4000000 in
theorem jfX12_gate {I : km_S → Prop} (W : gw_ I [1, 26]) {Q : Int32 → km_S → Prop} (hQ : ∀ y0 y1, I y1 → Q y0 y1) : ∀ (l1 : Int32) (l2 : Int32) (μ : km_S), I μ → vX12_gate l1 l2 μ Q := by
  intro l1 l2 μ i
  unfold vX12_gate
  intro μ1 e1
  have iμ1 : I μ1 := by rw [e1]; exact ((W _ i) 1 (by decide)).1 _
  refine jfX12_isReach (I := I) (gw_sub W (by decide)) ?_ _ _ iμ1
  intro r3 μ2 iμ2
  refine ⟨?_, ?_⟩
  · intro e2
    intro e3
    refine ⟨?_, ?_⟩
    · intro e4
      exact hQ _ _ iμ2
    · intro e5
      refine ⟨?_, ?_⟩
      · intro e6
        exact hQ _ _ iμ2
      · intro e7
        refine ⟨?_, ?_⟩
        · intro e8
          intro e9
          intro v10 e10
          intro e11
          intro μ12 e12
          have iμ12 : I μ12 := by rw [e12]; exact ((W _ iμ2) 26 (by decide)).2.1 _ _
          exact hQ _ _ iμ12
        · intro e13
          exact hQ _ _ iμ2
  · intro e14
    refine jfX12_fail (I := I) (gw_sub W (by decide)) ?_ _ iμ2
    intro r14 μ13 iμ13
    exact hQ _ _ iμ13
def vX12_melt (l1 : Int32) (l2 : Int32) (μ : km_S) (Q : Int32 → km_S → Prop) : Prop := ∀ μ1, μ1 = km_si μ 1 0 → vX12_isReach l1 μ1 (fun r3 μ2 => ((¬ r3 = 0 → ((l2 < 0 → Q (-1) μ2) ∧ (¬ (l2 < 0) → ((l2 ≤ 500 → vp_in l1 10 → ∀ v8, v8 = km_a μ2 17 l1.toNatClampNeg → vp_in l1 10 → ∀ μ10, μ10 = km_sa μ2 17 l1.toNatClampNeg l2 → Q v8 μ10) ∧ (¬ (l2 ≤ 500) → Q (-1) μ2))))) ∧ (r3 = 0 → vX12_fail μ2 (fun r12 μ11 => Q r12 μ11))))
set_option maxRecDepth 100000 in
set_option maxHeartbeats 4000000 in
theorem jcX12_melt {Q Q' Q'' : Int32 → km_S → Prop} (hQ : ∀ y0 y1, Q y0 y1 → Q' y0 y1 → Q'' y0 y1) : ∀ (l1 : Int32) (l2 : Int32) (μ : km_S), wX12_melt l1 l2 μ Q → vX12_melt l1 l2 μ Q' → wX12_melt l1 l2 μ Q'' := by
  intro l1 l2 μ h v
  unfold wX12_melt at h
  unfold vX12_melt at v
  unfold wX12_melt
  intro μ1 e1
  have h := h μ1 e1
  have v := v μ1 e1
  refine jcX12_isReach ?_ _ _ h v
  intro r3 μ2 h v
  refine ⟨?_, ?_⟩
  · have h := h.1
    have v := v.1
    intro e2
    have h := h e2
    have v := v e2
    refine ⟨?_, ?_⟩
    · have h := h.1
      have v := v.1
      intro e3
      have h := h e3
      have v := v e3
      exact hQ _ _ h v
    · have h := h.2
      have v := v.2
      intro e4
      have h := h e4
      have v := v e4
      refine ⟨?_, ?_⟩
      · have h := h.1
        have v := v.1
        intro e5
        have h := h e5
        have v := v e5
        refine ⟨h.1, ?_⟩
        have v := v h.1
        have h := h.2
        intro v8 e7
        have h := h v8 e7
        have v := v v8 e7
        refine ⟨h.1, ?_⟩
        have v := v h.1
        have h := h.2
        intro μ10 e9
        have h := h μ10 e9
        have v := v μ10 e9
        exact hQ _ _ h v
      · have h := h.2
        have v := v.2
        intro e10
        have h := h e10
        have v := v e10
        exact hQ _ _ h v
  · have h := h.2
    have v := v.2
    intro e11
    have h := h e11
    have v := v e11
    refine jcX12_fail ?_ _ h v
    intro r12 μ11 h v
    exact hQ _ _ h v
set_option maxRecDepth 100000 in
set_option maxHeartbeats 4000000 in
theorem jaX12_melt {Q Q' : Int32 → km_S → Prop} (hQ : ∀ y0 y1, Q y0 y1 → Q' y0 y1) : ∀ (l1 : Int32) (l2 : Int32) (μ : km_S), wX12_melt l1 l2 μ Q → vX12_melt l1 l2 μ Q' := by
  intro l1 l2 μ h
  unfold wX12_melt at h
  unfold vX12_melt
  intro μ1 e1
  have h := h μ1 e1
  refine jaX12_isReach ?_ _ _ h
  intro r3 μ2 h
  refine ⟨?_, ?_⟩
  · have h := h.1
    intro e2
    have h := h e2
    refine ⟨?_, ?_⟩
    · have h := h.1
      intro e3
      have h := h e3
      exact hQ _ _ h
    · have h := h.2
      intro e4
      have h := h e4
      refine ⟨?_, ?_⟩
      · have h := h.1
        intro e5
        have h := h e5
        intro e6
        have h := h.2
        intro v8 e7
        have h := h v8 e7
        intro e8
        have h := h.2
        intro μ10 e9
        have h := h μ10 e9
        exact hQ _ _ h
      · have h := h.2
        intro e10
        have h := h e10
        exact hQ _ _ h
  · have h := h.2
    intro e11
    have h := h e11
    refine jaX12_fail ?_ _ h
    intro r12 μ11 h
    exact hQ _ _ h
set_option maxRecDepth 100000 in
set_option maxHeartbeats 4000000 in
theorem jfX12_melt {I : km_S → Prop} (W : gw_ I [1, 17]) {Q : Int32 → km_S → Prop} (hQ : ∀ y0 y1, I y1 → Q y0 y1) : ∀ (l1 : Int32) (l2 : Int32) (μ : km_S), I μ → vX12_melt l1 l2 μ Q := by
  intro l1 l2 μ i
  unfold vX12_melt
  intro μ1 e1
  have iμ1 : I μ1 := by rw [e1]; exact ((W _ i) 1 (by decide)).1 _
  refine jfX12_isReach (I := I) (gw_sub W (by decide)) ?_ _ _ iμ1
  intro r3 μ2 iμ2
  refine ⟨?_, ?_⟩
  · intro e2
    refine ⟨?_, ?_⟩
    · intro e3
      exact hQ _ _ iμ2
    · intro e4
      refine ⟨?_, ?_⟩
      · intro e5
        intro e6
        intro v8 e7
        intro e8
        intro μ10 e9
        have iμ10 : I μ10 := by rw [e9]; exact ((W _ iμ2) 17 (by decide)).2.1 _ _
        exact hQ _ _ iμ10
      · intro e10
        exact hQ _ _ iμ2
  · intro e11
    refine jfX12_fail (I := I) (gw_sub W (by decide)) ?_ _ iμ2
    intro r12 μ11 iμ11
    exact hQ _ _ iμ11
def vX12_boom (l1 : Int32) (l2 : Int32) (l3 : Int32) (μ : km_S) (Q : Int32 → km_S → Prop) : Prop := ∀ μ1, μ1 = km_si μ 1 0 → vX12_isReach l1 μ1 (fun r3 μ2 => ((¬ r3 = 0 → ((l3 < 1 → Q 0 μ2) ∧ (¬ (l3 < 1) → ((l3 ≤ 100 → vp_in l1 10 → ∀ μ8, μ8 = km_sa μ2 22 l1.toNatClampNeg (vp_nar .boolean 1) → vp_in l1 10 → ∀ μ10, μ10 = km_sa μ8 27 l1.toNatClampNeg (l2 &&& 65535) → vp_in l1 10 → ∀ μ12, μ12 = km_sa μ10 28 l1.toNatClampNeg l3 → Q 1 μ12) ∧ (¬ (l3 ≤ 100) → Q 0 μ2))))) ∧ (r3 = 0 → vX12_fail μ2 (fun r14 μ13 => Q 0 μ13))))
set_option maxRecDepth 100000 in
set_option maxHeartbeats 4000000 in
theorem jcX12_boom {Q Q' Q'' : Int32 → km_S → Prop} (hQ : ∀ y0 y1, Q y0 y1 → Q' y0 y1 → Q'' y0 y1) : ∀ (l1 : Int32) (l2 : Int32) (l3 : Int32) (μ : km_S), wX12_boom l1 l2 l3 μ Q → vX12_boom l1 l2 l3 μ Q' → wX12_boom l1 l2 l3 μ Q'' := by
  intro l1 l2 l3 μ h v
  unfold wX12_boom at h
  unfold vX12_boom at v
  unfold wX12_boom
  intro μ1 e1
  have h := h μ1 e1
  have v := v μ1 e1
  refine jcX12_isReach ?_ _ _ h v
  intro r3 μ2 h v
  refine ⟨?_, ?_⟩
  · have h := h.1
    have v := v.1
    intro e2
    have h := h e2
    have v := v e2
    refine ⟨?_, ?_⟩
    · have h := h.1
      have v := v.1
      intro e3
      have h := h e3
      have v := v e3
      exact hQ _ _ h v
    · have h := h.2
      have v := v.2
      intro e4
      have h := h e4
      have v := v e4
      refine ⟨?_, ?_⟩
      · have h := h.1
        have v := v.1
        intro e5
        have h := h e5
        have v := v e5
        refine ⟨h.1, ?_⟩
        have v := v h.1
        have h := h.2
        intro μ8 e7
        have h := h μ8 e7
        have v := v μ8 e7
        refine ⟨h.1, ?_⟩
        have v := v h.1
        have h := h.2
        intro μ10 e9
        have h := h μ10 e9
        have v := v μ10 e9
        refine ⟨h.1, ?_⟩
        have v := v h.1
        have h := h.2
        intro μ12 e11
        have h := h μ12 e11
        have v := v μ12 e11
        exact hQ _ _ h v
      · have h := h.2
        have v := v.2
        intro e12
        have h := h e12
        have v := v e12
        exact hQ _ _ h v
  · have h := h.2
    have v := v.2
    intro e13
    have h := h e13
    have v := v e13
    refine jcX12_fail ?_ _ h v
    intro r14 μ13 h v
    exact hQ _ _ h v
set_option maxRecDepth 100000 in
set_option maxHeartbeats 4000000 in
theorem jaX12_boom {Q Q' : Int32 → km_S → Prop} (hQ : ∀ y0 y1, Q y0 y1 → Q' y0 y1) : ∀ (l1 : Int32) (l2 : Int32) (l3 : Int32) (μ : km_S), wX12_boom l1 l2 l3 μ Q → vX12_boom l1 l2 l3 μ Q' := by
  intro l1 l2 l3 μ h
  unfold wX12_boom at h
  unfold vX12_boom
  intro μ1 e1
  have h := h μ1 e1
  refine jaX12_isReach ?_ _ _ h
  intro r3 μ2 h
  refine ⟨?_, ?_⟩
  · have h := h.1
    intro e2
    have h := h e2
    refine ⟨?_, ?_⟩
    · have h := h.1
      intro e3
      have h := h e3
      exact hQ _ _ h
    · have h := h.2
      intro e4
      have h := h e4
      refine ⟨?_, ?_⟩
      · have h := h.1
        intro e5
        have h := h e5
        intro e6
        have h := h.2
        intro μ8 e7
        have h := h μ8 e7
        intro e8
        have h := h.2
        intro μ10 e9
        have h := h μ10 e9
        intro e10
        have h := h.2
        intro μ12 e11
        have h := h μ12 e11
        exact hQ _ _ h
      · have h := h.2
        intro e12
        have h := h e12
        exact hQ _ _ h
  · have h := h.2
    intro e13
    have h := h e13
    refine jaX12_fail ?_ _ h
    intro r14 μ13 h
    exact hQ _ _ h
set_option maxRecDepth 100000 in
set_option maxHeartbeats 4000000 in
theorem jfX12_boom {I : km_S → Prop} (W : gw_ I [1, 22, 27, 28]) {Q : Int32 → km_S → Prop} (hQ : ∀ y0 y1, I y1 → Q y0 y1) : ∀ (l1 : Int32) (l2 : Int32) (l3 : Int32) (μ : km_S), I μ → vX12_boom l1 l2 l3 μ Q := by
  intro l1 l2 l3 μ i
  unfold vX12_boom
  intro μ1 e1
  have iμ1 : I μ1 := by rw [e1]; exact ((W _ i) 1 (by decide)).1 _
  refine jfX12_isReach (I := I) (gw_sub W (by decide)) ?_ _ _ iμ1
  intro r3 μ2 iμ2
  refine ⟨?_, ?_⟩
  · intro e2
    refine ⟨?_, ?_⟩
    · intro e3
      exact hQ _ _ iμ2
    · intro e4
      refine ⟨?_, ?_⟩
      · intro e5
        intro e6
        intro μ8 e7
        have iμ8 : I μ8 := by rw [e7]; exact ((W _ iμ2) 22 (by decide)).2.1 _ _
        intro e8
        intro μ10 e9
        have iμ10 : I μ10 := by rw [e9]; exact ((W _ iμ8) 27 (by decide)).2.1 _ _
        intro e10
        intro μ12 e11
        have iμ12 : I μ12 := by rw [e11]; exact ((W _ iμ10) 28 (by decide)).2.1 _ _
        exact hQ _ _ iμ12
      · intro e12
        exact hQ _ _ iμ2
  · intro e13
    refine jfX12_fail (I := I) (gw_sub W (by decide)) ?_ _ iμ2
    intro r14 μ13 iμ13
    exact hQ _ _ iμ13
def vX12_watch (l1 : Int32) (l2 : Int32) (μ : km_S) (Q : Int32 → km_S → Prop) : Prop := ∀ μ1, μ1 = km_si μ 1 0 → vX12_isReach l1 μ1 (fun r3 μ2 => ((¬ r3 = 0 → vp_in l1 10 → ∀ v6, v6 = km_a μ2 23 l1.toNatClampNeg → vp_in l1 10 → ∀ μ8, μ8 = km_sa μ2 23 l1.toNatClampNeg (vp_nar .boolean l2) → narrow .boolean (.int v6) = .int v6 → Q v6 μ8) ∧ (r3 = 0 → vX12_fail μ2 (fun r10 μ9 => Q 0 μ9))))
set_option maxRecDepth 100000 in
set_option maxHeartbeats 4000000 in
theorem jcX12_watch {Q Q' Q'' : Int32 → km_S → Prop} (hQ : ∀ y0 y1, Q y0 y1 → Q' y0 y1 → Q'' y0 y1) : ∀ (l1 : Int32) (l2 : Int32) (μ : km_S), wX12_watch l1 l2 μ Q → vX12_watch l1 l2 μ Q' → wX12_watch l1 l2 μ Q'' := by
  intro l1 l2 μ h v
  unfold wX12_watch at h
  unfold vX12_watch at v
  unfold wX12_watch
  intro μ1 e1
  have h := h μ1 e1
  have v := v μ1 e1
  refine jcX12_isReach ?_ _ _ h v
  intro r3 μ2 h v
  refine ⟨?_, ?_⟩
  · have h := h.1
    have v := v.1
    intro e2
    have h := h e2
    have v := v e2
    refine ⟨h.1, ?_⟩
    have v := v h.1
    have h := h.2
    intro v6 e4
    have h := h v6 e4
    have v := v v6 e4
    refine ⟨h.1, ?_⟩
    have v := v h.1
    have h := h.2
    intro μ8 e6
    have h := h μ8 e6
    have v := v μ8 e6
    refine ⟨h.1, ?_⟩
    have v := v h.1
    have h := h.2
    exact hQ _ _ h v
  · have h := h.2
    have v := v.2
    intro e8
    have h := h e8
    have v := v e8
    refine jcX12_fail ?_ _ h v
    intro r10 μ9 h v
    exact hQ _ _ h v
set_option maxRecDepth 100000 in
set_option maxHeartbeats 4000000 in
theorem jaX12_watch {Q Q' : Int32 → km_S → Prop} (hQ : ∀ y0 y1, Q y0 y1 → Q' y0 y1) : ∀ (l1 : Int32) (l2 : Int32) (μ : km_S), wX12_watch l1 l2 μ Q → vX12_watch l1 l2 μ Q' := by
  intro l1 l2 μ h
  unfold wX12_watch at h
  unfold vX12_watch
  intro μ1 e1
  have h := h μ1 e1
  refine jaX12_isReach ?_ _ _ h
  intro r3 μ2 h
  refine ⟨?_, ?_⟩
  · have h := h.1
    intro e2
    have h := h e2
    intro e3
    have h := h.2
    intro v6 e4
    have h := h v6 e4
    intro e5
    have h := h.2
    intro μ8 e6
    have h := h μ8 e6
    intro e7
    have h := h.2
    exact hQ _ _ h
  · have h := h.2
    intro e8
    have h := h e8
    refine jaX12_fail ?_ _ h
    intro r10 μ9 h
    exact hQ _ _ h
set_option maxRecDepth 100000 in
set_option maxHeartbeats 4000000 in
theorem jfX12_watch {I : km_S → Prop} (W : gw_ I [1, 23]) {Q : Int32 → km_S → Prop} (hQ : ∀ y0 y1, I y1 → Q y0 y1) : ∀ (l1 : Int32) (l2 : Int32) (μ : km_S), I μ → vX12_watch l1 l2 μ Q := by
  intro l1 l2 μ i
  unfold vX12_watch
  intro μ1 e1
  have iμ1 : I μ1 := by rw [e1]; exact ((W _ i) 1 (by decide)).1 _
  refine jfX12_isReach (I := I) (gw_sub W (by decide)) ?_ _ _ iμ1
  intro r3 μ2 iμ2
  refine ⟨?_, ?_⟩
  · intro e2
    intro e3
    intro v6 e4
    intro e5
    intro μ8 e6
    have iμ8 : I μ8 := by rw [e6]; exact ((W _ iμ2) 23 (by decide)).2.1 _ _
    intro e7
    exact hQ _ _ iμ8
  · intro e8
    refine jfX12_fail (I := I) (gw_sub W (by decide)) ?_ _ iμ2
    intro r10 μ9 iμ9
    exact hQ _ _ iμ9
def vX12_crew_104 (Q : Int32 → km_S → Prop) (l2 : Int32) (l3 : Int32) (μ : km_S) : Prop := vp_in l3 6 → ∀ μ2, μ2 = km_sa μ 44 l3.toNatClampNeg l2 → Q l3 μ2
set_option maxRecDepth 100000 in
set_option maxHeartbeats 4000000 in
theorem jcX12_crew_104 {Q Q' Q'' : Int32 → km_S → Prop} (hQ : ∀ y0 y1, Q y0 y1 → Q' y0 y1 → Q'' y0 y1) : ∀ (l2 : Int32) (l3 : Int32) (μ : km_S), wX12_crew_104 Q l2 l3 μ → vX12_crew_104 Q' l2 l3 μ → wX12_crew_104 Q'' l2 l3 μ := by
  intro l2 l3 μ h v
  unfold wX12_crew_104 at h
  unfold vX12_crew_104 at v
  unfold wX12_crew_104
  refine ⟨h.1, ?_⟩
  have v := v h.1
  have h := h.2
  intro μ2 e2
  have h := h μ2 e2
  have v := v μ2 e2
  exact hQ _ _ h v
set_option maxRecDepth 100000 in
set_option maxHeartbeats 4000000 in
theorem jaX12_crew_104 {Q Q' : Int32 → km_S → Prop} (hQ : ∀ y0 y1, Q y0 y1 → Q' y0 y1) : ∀ (l2 : Int32) (l3 : Int32) (μ : km_S), wX12_crew_104 Q l2 l3 μ → vX12_crew_104 Q' l2 l3 μ := by
  intro l2 l3 μ h
  unfold wX12_crew_104 at h
  unfold vX12_crew_104
  intro e1
  have h := h.2
  intro μ2 e2
  have h := h μ2 e2
  exact hQ _ _ h
set_option maxRecDepth 100000 in
set_option maxHeartbeats 4000000 in
theorem jfX12_crew_104 {I : km_S → Prop} (W : gw_ I [44]) {Q : Int32 → km_S → Prop} (hQ : ∀ y0 y1, I y1 → Q y0 y1) : ∀ (l2 : Int32) (l3 : Int32) (μ : km_S), I μ → vX12_crew_104 Q l2 l3 μ := by
  intro l2 l3 μ i
  unfold vX12_crew_104
  intro e1
  intro μ2 e2
  have iμ2 : I μ2 := by rw [e2]; exact ((W _ i) 44 (by decide)).2.1 _ _
  exact hQ _ _ iμ2
def vX12_crew_84 (Q : Int32 → km_S → Prop) (l2 : Int32) (l3 : Int32) (μ : km_S) : Prop := vp_in l3 6 → (((km_a μ 44 l3.toNatClampNeg) = l2 → vX12_crew_104 Q l2 l3 μ) ∧ (¬ ((km_a μ 44 l3.toNatClampNeg) = l2) → vp_in l3 6 → ∀ μ6, μ6 = km_sa μ 45 l3.toNatClampNeg (km_i μ 2) → vX12_crew_104 Q l2 l3 μ6))
set_option maxRecDepth 100000 in
set_option maxHeartbeats 4000000 in
theorem jcX12_crew_84 {Q Q' Q'' : Int32 → km_S → Prop} (hQ : ∀ y0 y1, Q y0 y1 → Q' y0 y1 → Q'' y0 y1) : ∀ (l2 : Int32) (l3 : Int32) (μ : km_S), wX12_crew_84 Q l2 l3 μ → vX12_crew_84 Q' l2 l3 μ → wX12_crew_84 Q'' l2 l3 μ := by
  intro l2 l3 μ h v
  unfold wX12_crew_84 at h
  unfold vX12_crew_84 at v
  unfold wX12_crew_84
  refine ⟨h.1, ?_⟩
  have v := v h.1
  have h := h.2
  refine ⟨?_, ?_⟩
  · have h := h.1
    have v := v.1
    intro e2
    have h := h e2
    have v := v e2
    exact jcX12_crew_104 hQ _ _ _ h v
  · have h := h.2
    have v := v.2
    intro e3
    have h := h e3
    have v := v e3
    refine ⟨h.1, ?_⟩
    have v := v h.1
    have h := h.2
    intro μ6 e5
    have h := h μ6 e5
    have v := v μ6 e5
    exact jcX12_crew_104 hQ _ _ _ h v
set_option maxRecDepth 100000 in
set_option maxHeartbeats 4000000 in
theorem jaX12_crew_84 {Q Q' : Int32 → km_S → Prop} (hQ : ∀ y0 y1, Q y0 y1 → Q' y0 y1) : ∀ (l2 : Int32) (l3 : Int32) (μ : km_S), wX12_crew_84 Q l2 l3 μ → vX12_crew_84 Q' l2 l3 μ := by
  intro l2 l3 μ h
  unfold wX12_crew_84 at h
  unfold vX12_crew_84
  intro e1
  have h := h.2
  refine ⟨?_, ?_⟩
  · have h := h.1
    intro e2
    have h := h e2
    exact jaX12_crew_104 hQ _ _ _ h
  · have h := h.2
    intro e3
    have h := h e3
    intro e4
    have h := h.2
    intro μ6 e5
    have h := h μ6 e5
    exact jaX12_crew_104 hQ _ _ _ h
set_option maxRecDepth 100000 in
set_option maxHeartbeats 4000000 in
theorem jfX12_crew_84 {I : km_S → Prop} (W : gw_ I [44, 45]) {Q : Int32 → km_S → Prop} (hQ : ∀ y0 y1, I y1 → Q y0 y1) : ∀ (l2 : Int32) (l3 : Int32) (μ : km_S), I μ → vX12_crew_84 Q l2 l3 μ := by
  intro l2 l3 μ i
  unfold vX12_crew_84
  intro e1
  refine ⟨?_, ?_⟩
  · intro e2
    exact jfX12_crew_104 (I := I) (gw_sub W (by decide)) hQ _ _ _ i
  · intro e3
    intro e4
    intro μ6 e5
    have iμ6 : I μ6 := by rw [e5]; exact ((W _ i) 45 (by decide)).2.1 _ _
    exact jfX12_crew_104 (I := I) (gw_sub W (by decide)) hQ _ _ _ iμ6
def vX12_crew_47 (Q : Int32 → km_S → Prop) (l1 : Int32) (l2 : Int32) (μ : km_S) : Prop := ((¬ l1 = (-1) → vX12_crew_84 Q l2 l1 μ) ∧ (l1 = (-1) → ∀ v8, v8 = km_i μ 7 → ∀ μ9, μ9 = km_si μ 7 ((km_i μ 7) + 1) → vp_in v8 6 → ∀ μ11, μ11 = km_sa μ9 44 v8.toNatClampNeg (-1) → vp_in v8 6 → ∀ μ13, μ13 = km_sa μ11 46 v8.toNatClampNeg (-5) → vX12_crew_84 Q l2 v8 μ13))
set_option maxRecDepth 100000 in
set_option maxHeartbeats 4000000 in
theorem jcX12_crew_47 {Q Q' Q'' : Int32 → km_S → Prop} (hQ : ∀ y0 y1, Q y0 y1 → Q' y0 y1 → Q'' y0 y1) : ∀ (l1 : Int32) (l2 : Int32) (μ : km_S), wX12_crew_47 Q l1 l2 μ → vX12_crew_47 Q' l1 l2 μ → wX12_crew_47 Q'' l1 l2 μ := by
  intro l1 l2 μ h v
  unfold wX12_crew_47 at h
  unfold vX12_crew_47 at v
  unfold wX12_crew_47
  refine ⟨?_, ?_⟩
  · have h := h.1
    have v := v.1
    intro e1
    have h := h e1
    have v := v e1
    exact jcX12_crew_84 hQ _ _ _ h v
  · have h := h.2
    have v := v.2
    intro e2
    have h := h e2
    have v := v e2
    intro v8 e3
    have h := h v8 e3
    have v := v v8 e3
    intro μ9 e4
    have h := h μ9 e4
    have v := v μ9 e4
    refine ⟨h.1, ?_⟩
    have v := v h.1
    have h := h.2
    intro μ11 e6
    have h := h μ11 e6
    have v := v μ11 e6
    refine ⟨h.1, ?_⟩
    have v := v h.1
    have h := h.2
    intro μ13 e8
    have h := h μ13 e8
    have v := v μ13 e8
    exact jcX12_crew_84 hQ _ _ _ h v
set_option maxRecDepth 100000 in
set_option maxHeartbeats 4000000 in
theorem jaX12_crew_47 {Q Q' : Int32 → km_S → Prop} (hQ : ∀ y0 y1, Q y0 y1 → Q' y0 y1) : ∀ (l1 : Int32) (l2 : Int32) (μ : km_S), wX12_crew_47 Q l1 l2 μ → vX12_crew_47 Q' l1 l2 μ := by
  intro l1 l2 μ h
  unfold wX12_crew_47 at h
  unfold vX12_crew_47
  refine ⟨?_, ?_⟩
  · have h := h.1
    intro e1
    have h := h e1
    exact jaX12_crew_84 hQ _ _ _ h
  · have h := h.2
    intro e2
    have h := h e2
    intro v8 e3
    have h := h v8 e3
    intro μ9 e4
    have h := h μ9 e4
    intro e5
    have h := h.2
    intro μ11 e6
    have h := h μ11 e6
    intro e7
    have h := h.2
    intro μ13 e8
    have h := h μ13 e8
    exact jaX12_crew_84 hQ _ _ _ h
set_option maxRecDepth 100000 in
set_option maxHeartbeats 4000000 in
theorem jfX12_crew_47 {I : km_S → Prop} (W : gw_ I [7, 44, 45, 46]) {Q : Int32 → km_S → Prop} (hQ : ∀ y0 y1, I y1 → Q y0 y1) : ∀ (l1 : Int32) (l2 : Int32) (μ : km_S), I μ → vX12_crew_47 Q l1 l2 μ := by
  intro l1 l2 μ i
  unfold vX12_crew_47
  refine ⟨?_, ?_⟩
  · intro e1
    exact jfX12_crew_84 (I := I) (gw_sub W (by decide)) hQ _ _ _ i
  · intro e2
    intro v8 e3
    intro μ9 e4
    have iμ9 : I μ9 := by rw [e4]; exact ((W _ i) 7 (by decide)).1 _
    intro e5
    intro μ11 e6
    have iμ11 : I μ11 := by rw [e6]; exact ((W _ iμ9) 44 (by decide)).2.1 _ _
    intro e7
    intro μ13 e8
    have iμ13 : I μ13 := by rw [e8]; exact ((W _ iμ11) 46 (by decide)).2.1 _ _
    exact jfX12_crew_84 (I := I) (gw_sub W (by decide)) hQ _ _ _ iμ13
def vX12_crew (l1 : Int32) (l2 : Int32) (μ : km_S) (Q : Int32 → km_S → Prop) : Prop := ∀ μ14, μ14 = km_si μ 1 0 → vX12_isReach l2 μ14 (fun r16 μ15 => ((¬ r16 = 0 → ((l1 < (-1) → Q (-1) μ15) ∧ (¬ (l1 < (-1)) → (((km_i μ15 7) ≤ l1 → Q (-1) μ15) ∧ (¬ ((km_i μ15 7) ≤ l1) → ((¬ l1 = (-1) → vX12_crew_47 Q l1 l2 μ15) ∧ (l1 = (-1) → ((¬ (km_i μ15 7) = 6 → vX12_crew_47 Q l1 l2 μ15) ∧ ((km_i μ15 7) = 6 → Q (-1) μ15))))))))) ∧ (r16 = 0 → vX12_fail μ15 (fun r23 μ22 => Q r23 μ22))))
set_option maxRecDepth 100000 in
set_option maxHeartbeats 4000000 in
theorem jcX12_crew {Q Q' Q'' : Int32 → km_S → Prop} (hQ : ∀ y0 y1, Q y0 y1 → Q' y0 y1 → Q'' y0 y1) : ∀ (l1 : Int32) (l2 : Int32) (μ : km_S), wX12_crew l1 l2 μ Q → vX12_crew l1 l2 μ Q' → wX12_crew l1 l2 μ Q'' := by
  intro l1 l2 μ h v
  unfold wX12_crew at h
  unfold vX12_crew at v
  unfold wX12_crew
  intro μ14 e1
  have h := h μ14 e1
  have v := v μ14 e1
  refine jcX12_isReach ?_ _ _ h v
  intro r16 μ15 h v
  refine ⟨?_, ?_⟩
  · have h := h.1
    have v := v.1
    intro e2
    have h := h e2
    have v := v e2
    refine ⟨?_, ?_⟩
    · have h := h.1
      have v := v.1
      intro e3
      have h := h e3
      have v := v e3
      exact hQ _ _ h v
    · have h := h.2
      have v := v.2
      intro e4
      have h := h e4
      have v := v e4
      refine ⟨?_, ?_⟩
      · have h := h.1
        have v := v.1
        intro e5
        have h := h e5
        have v := v e5
        exact hQ _ _ h v
      · have h := h.2
        have v := v.2
        intro e6
        have h := h e6
        have v := v e6
        refine ⟨?_, ?_⟩
        · have h := h.1
          have v := v.1
          intro e7
          have h := h e7
          have v := v e7
          exact jcX12_crew_47 hQ _ _ _ h v
        · have h := h.2
          have v := v.2
          intro e8
          have h := h e8
          have v := v e8
          refine ⟨?_, ?_⟩
          · have h := h.1
            have v := v.1
            intro e9
            have h := h e9
            have v := v e9
            exact jcX12_crew_47 hQ _ _ _ h v
          · have h := h.2
            have v := v.2
            intro e10
            have h := h e10
            have v := v e10
            exact hQ _ _ h v
  · have h := h.2
    have v := v.2
    intro e11
    have h := h e11
    have v := v e11
    refine jcX12_fail ?_ _ h v
    intro r23 μ22 h v
    exact hQ _ _ h v
set_option maxRecDepth 100000 in
set_option maxHeartbeats 4000000 in
theorem jaX12_crew {Q Q' : Int32 → km_S → Prop} (hQ : ∀ y0 y1, Q y0 y1 → Q' y0 y1) : ∀ (l1 : Int32) (l2 : Int32) (μ : km_S), wX12_crew l1 l2 μ Q → vX12_crew l1 l2 μ Q' := by
  intro l1 l2 μ h
  unfold wX12_crew at h
  unfold vX12_crew
  intro μ14 e1
  have h := h μ14 e1
  refine jaX12_isReach ?_ _ _ h
  intro r16 μ15 h
  refine ⟨?_, ?_⟩
  · have h := h.1
    intro e2
    have h := h e2
    refine ⟨?_, ?_⟩
    · have h := h.1
      intro e3
      have h := h e3
      exact hQ _ _ h
    · have h := h.2
      intro e4
      have h := h e4
      refine ⟨?_, ?_⟩
      · have h := h.1
        intro e5
        have h := h e5
        exact hQ _ _ h
      · have h := h.2
        intro e6
        have h := h e6
        refine ⟨?_, ?_⟩
        · have h := h.1
          intro e7
          have h := h e7
          exact jaX12_crew_47 hQ _ _ _ h
        · have h := h.2
          intro e8
          have h := h e8
          refine ⟨?_, ?_⟩
          · have h := h.1
            intro e9
            have h := h e9
            exact jaX12_crew_47 hQ _ _ _ h
          · have h := h.2
            intro e10
            have h := h e10
            exact hQ _ _ h
  · have h := h.2
    intro e11
    have h := h e11
    refine jaX12_fail ?_ _ h
    intro r23 μ22 h
    exact hQ _ _ h
set_option maxRecDepth 100000 in
set_option maxHeartbeats 4000000 in
theorem jfX12_crew {I : km_S → Prop} (W : gw_ I [1, 7, 44, 45, 46]) {Q : Int32 → km_S → Prop} (hQ : ∀ y0 y1, I y1 → Q y0 y1) : ∀ (l1 : Int32) (l2 : Int32) (μ : km_S), I μ → vX12_crew l1 l2 μ Q := by
  intro l1 l2 μ i
  unfold vX12_crew
  intro μ14 e1
  have iμ14 : I μ14 := by rw [e1]; exact ((W _ i) 1 (by decide)).1 _
  refine jfX12_isReach (I := I) (gw_sub W (by decide)) ?_ _ _ iμ14
  intro r16 μ15 iμ15
  refine ⟨?_, ?_⟩
  · intro e2
    refine ⟨?_, ?_⟩
    · intro e3
      exact hQ _ _ iμ15
    · intro e4
      refine ⟨?_, ?_⟩
      · intro e5
        exact hQ _ _ iμ15
      · intro e6
        refine ⟨?_, ?_⟩
        · intro e7
          exact jfX12_crew_47 (I := I) (gw_sub W (by decide)) hQ _ _ _ iμ15
        · intro e8
          refine ⟨?_, ?_⟩
          · intro e9
            exact jfX12_crew_47 (I := I) (gw_sub W (by decide)) hQ _ _ _ iμ15
          · intro e10
            exact hQ _ _ iμ15
  · intro e11
    refine jfX12_fail (I := I) (gw_sub W (by decide)) ?_ _ iμ15
    intro r23 μ22 iμ22
    exact hQ _ _ iμ22
def vX12_feed_120 (Q : Int32 → km_S → Prop) (μ : km_S) : Prop := Q (km_i μ 9) μ
set_option maxRecDepth 100000 in
set_option maxHeartbeats 4000000 in
theorem jcX12_feed_120 {Q Q' Q'' : Int32 → km_S → Prop} (hQ : ∀ y0 y1, Q y0 y1 → Q' y0 y1 → Q'' y0 y1) : ∀ (μ : km_S), wX12_feed_120 Q μ → vX12_feed_120 Q' μ → wX12_feed_120 Q'' μ := by
  intro μ h v
  unfold wX12_feed_120 at h
  unfold vX12_feed_120 at v
  unfold wX12_feed_120
  exact hQ _ _ h v
set_option maxRecDepth 100000 in
set_option maxHeartbeats 4000000 in
theorem jaX12_feed_120 {Q Q' : Int32 → km_S → Prop} (hQ : ∀ y0 y1, Q y0 y1 → Q' y0 y1) : ∀ (μ : km_S), wX12_feed_120 Q μ → vX12_feed_120 Q' μ := by
  intro μ h
  unfold wX12_feed_120 at h
  unfold vX12_feed_120
  exact hQ _ _ h
set_option maxRecDepth 100000 in
set_option maxHeartbeats 4000000 in
theorem jfX12_feed_120 {I : km_S → Prop} (W : gw_ I []) {Q : Int32 → km_S → Prop} (hQ : ∀ y0 y1, I y1 → Q y0 y1) : ∀ (μ : km_S), I μ → vX12_feed_120 Q μ := by
  intro μ i
  unfold vX12_feed_120
  exact hQ _ _ i
def vX12_feed_76 (k23 : Int32 → Int32 → Int32 → Int32 → Int32 → Int32 → km_S → Prop) (Q : Int32 → km_S → Prop) (l1 : Int32) (l2 : Int32) (l3 : Int32) (l4 : Int32) (l5 : Int32) (l6 : Int32) (s0 : Int32) (μ : km_S) : Prop := vp_in (km_i μ 9) 500 → ∀ μ2, μ2 = km_sa μ 52 (km_i μ 9).toNatClampNeg ((s0 >>> ((24 - (8 * (l6 - l6 / 4 * 4))) &&& 31)) &&& 255) → ∀ μ3, μ3 = km_si μ2 9 ((km_i μ2 9) + 1) → ∀ v4 : Int32, v4 = l6 + 1 → k23 l1 l2 l3 l4 l5 v4 μ3
set_option maxRecDepth 100000 in
set_option maxHeartbeats 4000000 in
theorem jcX12_feed_76 {k23 k23' k23'' : Int32 → Int32 → Int32 → Int32 → Int32 → Int32 → km_S → Prop} (hk23 : ∀ y0 y1 y2 y3 y4 y5 y6, k23 y0 y1 y2 y3 y4 y5 y6 → k23' y0 y1 y2 y3 y4 y5 y6 → k23'' y0 y1 y2 y3 y4 y5 y6) {Q Q' Q'' : Int32 → km_S → Prop} (hQ : ∀ y0 y1, Q y0 y1 → Q' y0 y1 → Q'' y0 y1) : ∀ (l1 : Int32) (l2 : Int32) (l3 : Int32) (l4 : Int32) (l5 : Int32) (l6 : Int32) (s0 : Int32) (μ : km_S), wX12_feed_76 k23 Q l1 l2 l3 l4 l5 l6 s0 μ → vX12_feed_76 k23' Q' l1 l2 l3 l4 l5 l6 s0 μ → wX12_feed_76 k23'' Q'' l1 l2 l3 l4 l5 l6 s0 μ := by
  intro l1 l2 l3 l4 l5 l6 s0 μ h v
  unfold wX12_feed_76 at h
  unfold vX12_feed_76 at v
  unfold wX12_feed_76
  refine ⟨h.1, ?_⟩
  have v := v h.1
  have h := h.2
  intro μ2 e2
  have h := h μ2 e2
  have v := v μ2 e2
  intro μ3 e3
  have h := h μ3 e3
  have v := v μ3 e3
  intro v4 e4
  have h := h v4 e4
  have v := v v4 e4
  exact hk23 _ _ _ _ _ _ _ h v
set_option maxRecDepth 100000 in
set_option maxHeartbeats 4000000 in
theorem jaX12_feed_76 {k23 k23' : Int32 → Int32 → Int32 → Int32 → Int32 → Int32 → km_S → Prop} (hk23 : ∀ y0 y1 y2 y3 y4 y5 y6, k23 y0 y1 y2 y3 y4 y5 y6 → k23' y0 y1 y2 y3 y4 y5 y6) {Q Q' : Int32 → km_S → Prop} (hQ : ∀ y0 y1, Q y0 y1 → Q' y0 y1) : ∀ (l1 : Int32) (l2 : Int32) (l3 : Int32) (l4 : Int32) (l5 : Int32) (l6 : Int32) (s0 : Int32) (μ : km_S), wX12_feed_76 k23 Q l1 l2 l3 l4 l5 l6 s0 μ → vX12_feed_76 k23' Q' l1 l2 l3 l4 l5 l6 s0 μ := by
  intro l1 l2 l3 l4 l5 l6 s0 μ h
  unfold wX12_feed_76 at h
  unfold vX12_feed_76
  intro e1
  have h := h.2
  intro μ2 e2
  have h := h μ2 e2
  intro μ3 e3
  have h := h μ3 e3
  intro v4 e4
  have h := h v4 e4
  exact hk23 _ _ _ _ _ _ _ h
set_option maxRecDepth 100000 in
set_option maxHeartbeats 4000000 in
theorem jfX12_feed_76 {I : km_S → Prop} (W : gw_ I [9, 52]) {k23 : Int32 → Int32 → Int32 → Int32 → Int32 → Int32 → km_S → Prop} (hk23 : ∀ y0 y1 y2 y3 y4 y5 y6, I y6 → k23 y0 y1 y2 y3 y4 y5 y6) {Q : Int32 → km_S → Prop} (hQ : ∀ y0 y1, I y1 → Q y0 y1) : ∀ (l1 : Int32) (l2 : Int32) (l3 : Int32) (l4 : Int32) (l5 : Int32) (l6 : Int32) (s0 : Int32) (μ : km_S), I μ → vX12_feed_76 k23 Q l1 l2 l3 l4 l5 l6 s0 μ := by
  intro l1 l2 l3 l4 l5 l6 s0 μ i
  unfold vX12_feed_76
  intro e1
  intro μ2 e2
  have iμ2 : I μ2 := by rw [e2]; exact ((W _ i) 52 (by decide)).2.1 _ _
  intro μ3 e3
  have iμ3 : I μ3 := by rw [e3]; exact ((W _ iμ2) 9 (by decide)).1 _
  intro v4 e4
  exact hk23 _ _ _ _ _ _ _ iμ3

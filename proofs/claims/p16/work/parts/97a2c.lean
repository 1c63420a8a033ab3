def vX12_cell_23 (Q : Int32 → km_S → Prop) (μ : km_S) : Prop := vX12_fail μ (fun r2 μ1 => Q r2 μ1)
set_option maxRecDepth 100000 in
set_option maxHeartbeats 4000000 in
theorem jcX12_cell_23 {Q Q' Q'' : Int32 → km_S → Prop} (hQ : ∀ y0 y1, Q y0 y1 → Q' y0 y1 → Q'' y0 y1) : ∀ (μ : km_S), wX12_cell_23 Q μ → vX12_cell_23 Q' μ → wX12_cell_23 Q'' μ := by
  intro μ h v
  unfold wX12_cell_23 at h
  unfold vX12_cell_23 at v
  unfold wX12_cell_23
  refine jcX12_fail ?_ _ h v
  intro r2 μ1 h v
  exact hQ _ _ h v
set_option maxRecDepth 100000 in
set_option maxHeartbeats 4000000 in
theorem jaX12_cell_23 {Q Q' : Int32 → km_S → Prop} (hQ : ∀ y0 y1, Q y0 y1 → Q' y0 y1) : ∀ (μ : km_S), wX12_cell_23 Q μ → vX12_cell_23 Q' μ := by
  intro μ h
  unfold wX12_cell_23 at h
  unfold vX12_cell_23
  refine jaX12_fail ?_ _ h
  intro r2 μ1 h
  exact hQ _ _ h
set_option maxRecDepth 100000 in
set_option maxHeartbeats 4000000 in
theorem jfX12_cell_23 {I : km_S → Prop} (W : gw_ I [1]) {Q : Int32 → km_S → Prop} (hQ : ∀ y0 y1, I y1 → Q y0 y1) : ∀ (μ : km_S), I μ → vX12_cell_23 Q μ := by
  intro μ i
  unfold vX12_cell_23
  refine jfX12_fail (I := I) (gw_sub W (by decide)) ?_ _ i
  intro r2 μ1 iμ1
  exact hQ _ _ iμ1
def vX12_cell (l1 : Int32) (l2 : Int32) (l3 : Int32) (μ : km_S) (Q : Int32 → km_S → Prop) : Prop := ∀ μ3, μ3 = km_si μ 1 0 → vX12_isCell l1 l2 μ3 (fun r5 μ4 => ((r5 = 0 → vX12_cell_23 Q μ4) ∧ (¬ (r5 = 0) → ((l3 < 0 → vX12_cell_23 Q μ4) ∧ (¬ (l3 < 0) → ((l3 ≤ 2 → vX12_at0 l1 l2 μ4 (fun r10 μ9 => ((¬ l3 = 0 → ((¬ l3 = 1 → vp_in r10 120 → (((km_a μ9 34 r10.toNatClampNeg) = 0 → Q 0 μ9) ∧ (¬ ((km_a μ9 34 r10.toNatClampNeg) = 0) → Q 1 μ9))) ∧ (l3 = 1 → vp_in r10 120 → (((km_a μ9 33 r10.toNatClampNeg) = 0 → Q 0 μ9) ∧ (¬ ((km_a μ9 33 r10.toNatClampNeg) = 0) → Q 1 μ9))))) ∧ (l3 = 0 → vp_in r10 120 → Q (km_a μ9 31 r10.toNatClampNeg) μ9)))) ∧ (¬ (l3 ≤ 2) → vX12_cell_23 Q μ4)))))))
set_option maxRecDepth 100000 in
set_option maxHeartbeats 4000000 in
theorem jcX12_cell {Q Q' Q'' : Int32 → km_S → Prop} (hQ : ∀ y0 y1, Q y0 y1 → Q' y0 y1 → Q'' y0 y1) : ∀ (l1 : Int32) (l2 : Int32) (l3 : Int32) (μ : km_S), wX12_cell l1 l2 l3 μ Q → vX12_cell l1 l2 l3 μ Q' → wX12_cell l1 l2 l3 μ Q'' := by
  intro l1 l2 l3 μ h v
  unfold wX12_cell at h
  unfold vX12_cell at v
  unfold wX12_cell
  intro μ3 e1
  have h := h μ3 e1
  have v := v μ3 e1
  refine jcX12_isCell ?_ _ _ _ h v
  intro r5 μ4 h v
  refine ⟨?_, ?_⟩
  · have h := h.1
    have v := v.1
    intro e2
    have h := h e2
    have v := v e2
    exact jcX12_cell_23 hQ _ h v
  · have h := h.2
    have v := v.2
    intro e3
    have h := h e3
    have v := v e3
    refine ⟨?_, ?_⟩
    · have h := h.1
      have v := v.1
      intro e4
      have h := h e4
      have v := v e4
      exact jcX12_cell_23 hQ _ h v
    · have h := h.2
      have v := v.2
      intro e5
      have h := h e5
      have v := v e5
      refine ⟨?_, ?_⟩
      · have h := h.1
        have v := v.1
        intro e6
        have h := h e6
        have v := v e6
        refine jcX12_at0 ?_ _ _ _ h v
        intro r10 μ9 h v
        refine ⟨?_, ?_⟩
        · have h := h.1
          have v := v.1
          intro e7
          have h := h e7
          have v := v e7
          refine ⟨?_, ?_⟩
          · have h := h.1
            have v := v.1
            intro e8
            have h := h e8
            have v := v e8
            refine ⟨h.1, ?_⟩
            have v := v h.1
            have h := h.2
            refine ⟨?_, ?_⟩
            · have h := h.1
              have v := v.1
              intro e10
              have h := h e10
              have v := v e10
              exact hQ _ _ h v
            · have h := h.2
              have v := v.2
              intro e11
              have h := h e11
              have v := v e11
              exact hQ _ _ h v
          · have h := h.2
            have v := v.2
            intro e12
            have h := h e12
            have v := v e12
            refine ⟨h.1, ?_⟩
            have v := v h.1
            have h := h.2
            refine ⟨?_, ?_⟩
            · have h := h.1
              have v := v.1
              intro e14
              have h := h e14
              have v := v e14
              exact hQ _ _ h v
            · have h := h.2
              have v := v.2
              intro e15
              have h := h e15
              have v := v e15
              exact hQ _ _ h v
        · have h := h.2
          have v := v.2
          intro e16
          have h := h e16
          have v := v e16
          refine ⟨h.1, ?_⟩
          have v := v h.1
          have h := h.2
          exact hQ _ _ h v
      · have h := h.2
        have v := v.2
        intro e18
        have h := h e18
        have v := v e18
        exact jcX12_cell_23 hQ _ h v
set_option maxRecDepth 100000 in
set_option maxHeartbeats 4000000 in
theorem jaX12_cell {Q Q' : Int32 → km_S → Prop} (hQ : ∀ y0 y1, Q y0 y1 → Q' y0 y1) : ∀ (l1 : Int32) (l2 : Int32) (l3 : Int32) (μ : km_S), wX12_cell l1 l2 l3 μ Q → vX12_cell l1 l2 l3 μ Q' := by
  intro l1 l2 l3 μ h
  unfold wX12_cell at h
  unfold vX12_cell
  intro μ3 e1
  have h := h μ3 e1
  refine jaX12_isCell ?_ _ _ _ h
  intro r5 μ4 h
  refine ⟨?_, ?_⟩
  · have h := h.1
    intro e2
    have h := h e2
    exact jaX12_cell_23 hQ _ h
  · have h := h.2
    intro e3
    have h := h e3
    refine ⟨?_, ?_⟩
    · have h := h.1
      intro e4
      have h := h e4
      exact jaX12_cell_23 hQ _ h
    · have h := h.2
      intro e5
      have h := h e5
      refine ⟨?_, ?_⟩
      · have h := h.1
        intro e6
        have h := h e6
        refine jaX12_at0 ?_ _ _ _ h
        intro r10 μ9 h
        refine ⟨?_, ?_⟩
        · have h := h.1
          intro e7
          have h := h e7
          refine ⟨?_, ?_⟩
          · have h := h.1
            intro e8
            have h := h e8
            intro e9
            have h := h.2
            refine ⟨?_, ?_⟩
            · have h := h.1
              intro e10
              have h := h e10
              exact hQ _ _ h
            · have h := h.2
              intro e11
              have h := h e11
              exact hQ _ _ h
          · have h := h.2
            intro e12
            have h := h e12
            intro e13
            have h := h.2
            refine ⟨?_, ?_⟩
            · have h := h.1
              intro e14
              have h := h e14
              exact hQ _ _ h
            · have h := h.2
              intro e15
              have h := h e15
              exact hQ _ _ h
        · have h := h.2
          intro e16
          have h := h e16
          intro e17
          have h := h.2
          exact hQ _ _ h
      · have h := h.2
        intro e18
        have h := h e18
        exact jaX12_cell_23 hQ _ h
set_option maxRecDepth 100000 in
set_option maxHeartbeats 4000000 in
theorem jfX12_cell {I : km_S → Prop} (W : gw_ I [1]) {Q : Int32 → km_S → Prop} (hQ : ∀ y0 y1, I y1 → Q y0 y1) : ∀ (l1 : Int32) (l2 : Int32) (l3 : Int32) (μ : km_S), I μ → vX12_cell l1 l2 l3 μ Q := by
  intro l1 l2 l3 μ i
  unfold vX12_cell
  intro μ3 e1
  have iμ3 : I μ3 := by rw [e1]; exact ((W _ i) 1 (by decide)).1 _
  refine jfX12_isCell (I := I) (gw_sub W (by decide)) ?_ _ _ _ iμ3
  intro r5 μ4 iμ4
  refine ⟨?_, ?_⟩
  · intro e2
    exact jfX12_cell_23 (I := I) (gw_sub W (by decide)) hQ _ iμ4
  · intro e3
    refine ⟨?_, ?_⟩
    · intro e4
      exact jfX12_cell_23 (I := I) (gw_sub W (by decide)) hQ _ iμ4
    · intro e5
      refine ⟨?_, ?_⟩
      · intro e6
        refine jfX12_at0 (I := I) (gw_sub W (by decide)) ?_ _ _ _ iμ4
        intro r10 μ9 iμ9
        refine ⟨?_, ?_⟩
        · intro e7
          refine ⟨?_, ?_⟩
          · intro e8
            intro e9
            refine ⟨?_, ?_⟩
            · intro e10
              exact hQ _ _ iμ9
            · intro e11
              exact hQ _ _ iμ9
          · intro e12
            intro e13
            refine ⟨?_, ?_⟩
            · intro e14
              exact hQ _ _ iμ9
            · intro e15
              exact hQ _ _ iμ9
        · intro e16
          intro e17
          exact hQ _ _ iμ9
      · intro e18
        exact jfX12_cell_23 (I := I) (gw_sub W (by decide)) hQ _ iμ4
def vX12_inCell (l1 : Int32) (l2 : Int32) (l3 : Int32) (μ : km_S) (Q : Int32 → km_S → Prop) : Prop := ∀ μ1, μ1 = km_si μ 1 0 → vX12_isCell l1 l2 μ1 (fun r3 μ2 => ((¬ r3 = 0 → ((l3 < 0 → Q (-1) μ2) ∧ (¬ (l3 < 0) → vX12_at0 l1 l2 μ2 (fun r7 μ6 => vp_in r7 120 → ((l3 < (km_a μ6 31 r7.toNatClampNeg) → vX12_at0 l1 l2 μ6 (fun r11 μ10 => vp_in ((20 * r11) + l3) 2400 → Q (km_a μ10 32 ((20 * r11) + l3).toNatClampNeg) μ10)) ∧ (¬ (l3 < (km_a μ6 31 r7.toNatClampNeg)) → Q (-1) μ6)))))) ∧ (r3 = 0 → vX12_fail μ2 (fun r14 μ13 => Q r14 μ13))))
set_option maxRecDepth 100000 in
set_option maxHeartbeats 4000000 in
theorem jcX12_inCell {Q Q' Q'' : Int32 → km_S → Prop} (hQ : ∀ y0 y1, Q y0 y1 → Q' y0 y1 → Q'' y0 y1) : ∀ (l1 : Int32) (l2 : Int32) (l3 : Int32) (μ : km_S), wX12_inCell l1 l2 l3 μ Q → vX12_inCell l1 l2 l3 μ Q' → wX12_inCell l1 l2 l3 μ Q'' := by
  intro l1 l2 l3 μ h v
  unfold wX12_inCell at h
  unfold vX12_inCell at v
  unfold wX12_inCell
  intro μ1 e1
  have h := h μ1 e1
  have v := v μ1 e1
  refine jcX12_isCell ?_ _ _ _ h v
  intro r3 μ2 h v
  refine ⟨?_, ?_⟩
  · have h := h.1
    have v := v.1
    intro e2
    have h := h e2
    have v := v e2
    refine ⟨?_, ?_⟩
    · have h := h.1
      have v := v.1
      intro e3
      have h := h e3
      have v := v e3
      exact hQ _ _ h v
    · have h := h.2
      have v := v.2
      intro e4
      have h := h e4
      have v := v e4
      refine jcX12_at0 ?_ _ _ _ h v
      intro r7 μ6 h v
      refine ⟨h.1, ?_⟩
      have v := v h.1
      have h := h.2
      refine ⟨?_, ?_⟩
      · have h := h.1
        have v := v.1
        intro e6
        have h := h e6
        have v := v e6
        refine jcX12_at0 ?_ _ _ _ h v
        intro r11 μ10 h v
        refine ⟨h.1, ?_⟩
        have v := v h.1
        have h := h.2
        exact hQ _ _ h v
      · have h := h.2
        have v := v.2
        intro e8
        have h := h e8
        have v := v e8
        exact hQ _ _ h v
  · have h := h.2
    have v := v.2
    intro e9
    have h := h e9
    have v := v e9
    refine jcX12_fail ?_ _ h v
    intro r14 μ13 h v
    exact hQ _ _ h v
set_option maxRecDepth 100000 in
set_option maxHeartbeats 4000000 in
theorem jaX12_inCell {Q Q' : Int32 → km_S → Prop} (hQ : ∀ y0 y1, Q y0 y1 → Q' y0 y1) : ∀ (l1 : Int32) (l2 : Int32) (l3 : Int32) (μ : km_S), wX12_inCell l1 l2 l3 μ Q → vX12_inCell l1 l2 l3 μ Q' := by
  intro l1 l2 l3 μ h
  unfold wX12_inCell at h
  unfold vX12_inCell
  intro μ1 e1
  have h := h μ1 e1
  refine jaX12_isCell ?_ _ _ _ h
  intro r3 μ2 h
  refine ⟨?_, ?_⟩
  · have h := h.1
    intro e2
    have h := h e2
    refine ⟨?_, ?_⟩
    · have h := h.1
      intro e3
      have h := h e3
      exact hQ _ _ h
    · have h := h.2
      intro e4
      have h := h e4
      refine jaX12_at0 ?_ _ _ _ h
      intro r7 μ6 h
      intro e5
      have h := h.2
      refine ⟨?_, ?_⟩
      · have h := h.1
        intro e6
        have h := h e6
        refine jaX12_at0 ?_ _ _ _ h
        intro r11 μ10 h
        intro e7
        have h := h.2
        exact hQ _ _ h
      · have h := h.2
        intro e8
        have h := h e8
        exact hQ _ _ h
  · have h := h.2
    intro e9
    have h := h e9
    refine jaX12_fail ?_ _ h
    intro r14 μ13 h
    exact hQ _ _ h
set_option maxRecDepth 100000 in
set_option maxHeartbeats 4000000 in
theorem jfX12_inCell {I : km_S → Prop} (W : gw_ I [1]) {Q : Int32 → km_S → Prop} (hQ : ∀ y0 y1, I y1 → Q y0 y1) : ∀ (l1 : Int32) (l2 : Int32) (l3 : Int32) (μ : km_S), I μ → vX12_inCell l1 l2 l3 μ Q := by
  intro l1 l2 l3 μ i
  unfold vX12_inCell
  intro μ1 e1
  have iμ1 : I μ1 := by rw [e1]; exact ((W _ i) 1 (by decide)).1 _
  refine jfX12_isCell (I := I) (gw_sub W (by decide)) ?_ _ _ _ iμ1
  intro r3 μ2 iμ2
  refine ⟨?_, ?_⟩
  · intro e2
    refine ⟨?_, ?_⟩
    · intro e3
      exact hQ _ _ iμ2
    · intro e4
      refine jfX12_at0 (I := I) (gw_sub W (by decide)) ?_ _ _ _ iμ2
      intro r7 μ6 iμ6
      intro e5
      refine ⟨?_, ?_⟩
      · intro e6
        refine jfX12_at0 (I := I) (gw_sub W (by decide)) ?_ _ _ _ iμ6
        intro r11 μ10 iμ10
        intro e7
        exact hQ _ _ iμ10
      · intro e8
        exact hQ _ _ iμ6
  · intro e9
    refine jfX12_fail (I := I) (gw_sub W (by decide)) ?_ _ iμ2
    intro r14 μ13 iμ13
    exact hQ _ _ iμ13
def vX12_heap (l1 : Int32) (l2 : Int32) (μ : km_S) (Q : Int32 → km_S → Prop) : Prop := ∀ μ1, μ1 = km_si μ 1 0 → vX12_isReach l1 μ1 (fun r3 μ2 => ((¬ r3 = 0 → vp_in l1 10 → ((¬ (km_a μ2 22 l1.toNatClampNeg) = 0 → ((¬ l2 = (-1) → ((l2 < 0 → Q (-1) μ2) ∧ (¬ (l2 < 0) → vp_in l1 10 → ((l2 < (km_a μ2 29 l1.toNatClampNeg) → vp_in ((100 * l1) + l2) 1000 → Q (km_a μ2 30 ((100 * l1) + l2).toNatClampNeg) μ2) ∧ (¬ (l2 < (km_a μ2 29 l1.toNatClampNeg)) → Q (-1) μ2))))) ∧ (l2 = (-1) → vp_in l1 10 → Q (km_a μ2 29 l1.toNatClampNeg) μ2))) ∧ ((km_a μ2 22 l1.toNatClampNeg) = 0 → Q (-1) μ2))) ∧ (r3 = 0 → vX12_fail μ2 (fun r14 μ13 => Q r14 μ13))))
set_option maxRecDepth 100000 in
set_option maxHeartbeats 4000000 in
theorem jcX12_heap {Q Q' Q'' : Int32 → km_S → Prop} (hQ : ∀ y0 y1, Q y0 y1 → Q' y0 y1 → Q'' y0 y1) : ∀ (l1 : Int32) (l2 : Int32) (μ : km_S), wX12_heap l1 l2 μ Q → vX12_heap l1 l2 μ Q' → wX12_heap l1 l2 μ Q'' := by
  intro l1 l2 μ h v
  unfold wX12_heap at h
  unfold vX12_heap at v
  unfold wX12_heap
  intro μ1 e1
  have h := h μ1 e1
  have v := v μ1 e1
  refine jcX12_isReach ?_ _ _ h v
  intro r3 μ2 h v
  refine ⟨?_, ?_⟩
  · have h := h.1
    have v := v.1
    intro e2
    have h := h e2
    have v := v e2
    refine ⟨h.1, ?_⟩
    have v := v h.1
    have h := h.2
    refine ⟨?_, ?_⟩
    · have h := h.1
      have v := v.1
      intro e4
      have h := h e4
      have v := v e4
      refine ⟨?_, ?_⟩
      · have h := h.1
        have v := v.1
        intro e5
        have h := h e5
        have v := v e5
        refine ⟨?_, ?_⟩
        · have h := h.1
          have v := v.1
          intro e6
          have h := h e6
          have v := v e6
          exact hQ _ _ h v
        · have h := h.2
          have v := v.2
          intro e7
          have h := h e7
          have v := v e7
          refine ⟨h.1, ?_⟩
          have v := v h.1
          have h := h.2
          refine ⟨?_, ?_⟩
          · have h := h.1
            have v := v.1
            intro e9
            have h := h e9
            have v := v e9
            refine ⟨h.1, ?_⟩
            have v := v h.1
            have h := h.2
            exact hQ _ _ h v
          · have h := h.2
            have v := v.2
            intro e11
            have h := h e11
            have v := v e11
            exact hQ _ _ h v
      · have h := h.2
        have v := v.2
        intro e12
        have h := h e12
        have v := v e12
        refine ⟨h.1, ?_⟩
        have v := v h.1
        have h := h.2
        exact hQ _ _ h v
    · have h := h.2
      have v := v.2
      intro e14
      have h := h e14
      have v := v e14
      exact hQ _ _ h v
  · have h := h.2
    have v := v.2
    intro e15
    have h := h e15
    have v := v e15
    refine jcX12_fail ?_ _ h v
    intro r14 μ13 h v
    exact hQ _ _ h v
set_option maxRecDepth 100000 in
set_option maxHeartbeats 4000000 in
theorem jaX12_heap {Q Q' : Int32 → km_S → Prop} (hQ : ∀ y0 y1, Q y0 y1 → Q' y0 y1) : ∀ (l1 : Int32) (l2 : Int32) (μ : km_S), wX12_heap l1 l2 μ Q → vX12_heap l1 l2 μ Q' := by
  intro l1 l2 μ h
  unfold wX12_heap at h
  unfold vX12_heap
  intro μ1 e1
  have h := h μ1 e1
  refine jaX12_isReach ?_ _ _ h
  intro r3 μ2 h
  refine ⟨?_, ?_⟩
  · have h := h.1
    intro e2
    have h := h e2
    intro e3
    have h := h.2
    refine ⟨?_, ?_⟩
    · have h := h.1
      intro e4
      have h := h e4
      refine ⟨?_, ?_⟩
      · have h := h.1
        intro e5
        have h := h e5
        refine ⟨?_, ?_⟩
        · have h := h.1
          intro e6
          have h := h e6
          exact hQ _ _ h
        · have h := h.2
          intro e7
          have h := h e7
          intro e8
          have h := h.2
          refine ⟨?_, ?_⟩
          · have h := h.1
            intro e9
            have h := h e9
            intro e10
            have h := h.2
            exact hQ _ _ h
          · have h := h.2
            intro e11
            have h := h e11
            exact hQ _ _ h
      · have h := h.2
        intro e12
        have h := h e12
        intro e13
        have h := h.2
        exact hQ _ _ h
    · have h := h.2
      intro e14
      have h := h e14
      exact hQ _ _ h
  · have h := h.2
    intro e15
    have h := h e15
    refine jaX12_fail ?_ _ h
    intro r14 μ13 h
    exact hQ _ _ h
set_option maxRecDepth 100000 in
set_option maxHeartbeats 4000000 in
theorem jfX12_heap {I : km_S → Prop} (W : gw_ I [1]) {Q : Int32 → km_S → Prop} (hQ : ∀ y0 y1, I y1 → Q y0 y1) : ∀ (l1 : Int32) (l2 : Int32) (μ : km_S), I μ → vX12_heap l1 l2 μ Q := by
  intro l1 l2 μ i
  unfold vX12_heap
  intro μ1 e1
  have iμ1 : I μ1 := by rw [e1]; exact ((W _ i) 1 (by decide)).1 _
  refine jfX12_isReach (I := I) (gw_sub W (by decide)) ?_ _ _ iμ1
  intro r3 μ2 iμ2
  refine ⟨?_, ?_⟩
  · intro e2
    intro e3
    refine ⟨?_, ?_⟩
    · intro e4
      refine ⟨?_, ?_⟩
      · intro e5
        refine ⟨?_, ?_⟩
        · intro e6
          exact hQ _ _ iμ2
        · intro e7
          intro e8
          refine ⟨?_, ?_⟩
          · intro e9
            intro e10
            exact hQ _ _ iμ2
          · intro e11
            exact hQ _ _ iμ2
      · intro e12
        intro e13
        exact hQ _ _ iμ2
    · intro e14
      exact hQ _ _ iμ2
  · intro e15
    refine jfX12_fail (I := I) (gw_sub W (by decide)) ?_ _ iμ2
    intro r14 μ13 iμ13
    exact hQ _ _ iμ13
def vX12_water (l1 : Int32) (l2 : Int32) (μ : km_S) (Q : Int32 → km_S → Prop) : Prop := ∀ μ1, μ1 = km_si μ 1 0 → vX12_isReach l1 μ1 (fun r3 μ2 => ((¬ r3 = 0 → ∀ v5, v5 = l2 → ((v5 = 0 → vp_in l1 10 → Q (km_a μ2 18 l1.toNatClampNeg) μ2) ∧ ((v5 = 1 → vp_in l1 10 → Q (km_a μ2 19 l1.toNatClampNeg) μ2) ∧ ((v5 = 2 → vp_in l1 10 → (((km_a μ2 21 l1.toNatClampNeg) = 0 → Q (-1) μ2) ∧ (¬ ((km_a μ2 21 l1.toNatClampNeg) = 0) → vp_in l1 10 → Q (km_a μ2 25 l1.toNatClampNeg) μ2))) ∧ ((v5 = 3 → vp_in l1 10 → Q (km_a μ2 13 l1.toNatClampNeg) μ2) ∧ ((v5 = 4 → vp_in l1 10 → Q (km_a μ2 14 l1.toNatClampNeg) μ2) ∧ (¬ v5 = 0 → ¬ v5 = 1 → ¬ v5 = 2 → ¬ v5 = 3 → ¬ v5 = 4 → vX12_fail μ2 (fun r19 μ18 => Q r19 μ18)))))))) ∧ (r3 = 0 → vX12_fail μ2 (fun r21 μ20 => Q r21 μ20))))
set_option maxRecDepth 100000 in
set_option maxHeartbeats 4000000 in
theorem jcX12_water {Q Q' Q'' : Int32 → km_S → Prop} (hQ : ∀ y0 y1, Q y0 y1 → Q' y0 y1 → Q'' y0 y1) : ∀ (l1 : Int32) (l2 : Int32) (μ : km_S), wX12_water l1 l2 μ Q → vX12_water l1 l2 μ Q' → wX12_water l1 l2 μ Q'' := by
  intro l1 l2 μ h v
  unfold wX12_water at h
  unfold vX12_water at v
  unfold wX12_water
  intro μ1 e1
  have h := h μ1 e1
  have v := v μ1 e1
  refine jcX12_isReach ?_ _ _ h v
  intro r3 μ2 h v
  refine ⟨?_, ?_⟩
  · have h := h.1
    have v := v.1
    intro e2
    have h := h e2
    have v := v e2
    intro v5 e3
    have h := h v5 e3
    have v := v v5 e3
    refine ⟨?_, ?_⟩
    · have h := h.1
      have v := v.1
      intro e4
      have h := h e4
      have v := v e4
      refine ⟨h.1, ?_⟩
      have v := v h.1
      have h := h.2
      exact hQ _ _ h v
    · have h := h.2
      have v := v.2
      refine ⟨?_, ?_⟩
      · have h := h.1
        have v := v.1
        intro e6
        have h := h e6
        have v := v e6
        refine ⟨h.1, ?_⟩
        have v := v h.1
        have h := h.2
        exact hQ _ _ h v
      · have h := h.2
        have v := v.2
        refine ⟨?_, ?_⟩
        · have h := h.1
          have v := v.1
          intro e8
          have h := h e8
          have v := v e8
          refine ⟨h.1, ?_⟩
          have v := v h.1
          have h := h.2
          refine ⟨?_, ?_⟩
          · have h := h.1
            have v := v.1
            intro e10
            have h := h e10
            have v := v e10
            exact hQ _ _ h v
          · have h := h.2
            have v := v.2
            intro e11
            have h := h e11
            have v := v e11
            refine ⟨h.1, ?_⟩
            have v := v h.1
            have h := h.2
            exact hQ _ _ h v
        · have h := h.2
          have v := v.2
          refine ⟨?_, ?_⟩
          · have h := h.1
            have v := v.1
            intro e13
            have h := h e13
            have v := v e13
            refine ⟨h.1, ?_⟩
            have v := v h.1
            have h := h.2
            exact hQ _ _ h v
          · have h := h.2
            have v := v.2
            refine ⟨?_, ?_⟩
            · have h := h.1
              have v := v.1
              intro e15
              have h := h e15
              have v := v e15
              refine ⟨h.1, ?_⟩
              have v := v h.1
              have h := h.2
              exact hQ _ _ h v
            · have h := h.2
              have v := v.2
              intro e17 e18 e19 e20 e21
              have h := h e17 e18 e19 e20 e21
              have v := v e17 e18 e19 e20 e21
              refine jcX12_fail ?_ _ h v
              intro r19 μ18 h v
              exact hQ _ _ h v
  · have h := h.2
    have v := v.2
    intro e22
    have h := h e22
    have v := v e22
    refine jcX12_fail ?_ _ h v
    intro r21 μ20 h v
    exact hQ _ _ h v
set_option maxRecDepth 100000 in
set_option maxHeartbeats 4000000 in
theorem jaX12_water {Q Q' : Int32 → km_S → Prop} (hQ : ∀ y0 y1, Q y0 y1 → Q' y0 y1) : ∀ (l1 : Int32) (l2 : Int32) (μ : km_S), wX12_water l1 l2 μ Q → vX12_water l1 l2 μ Q' := by
  intro l1 l2 μ h
  unfold wX12_water at h
  unfold vX12_water
  intro μ1 e1
  have h := h μ1 e1
  refine jaX12_isReach ?_ _ _ h
  intro r3 μ2 h
  refine ⟨?_, ?_⟩
  · have h := h.1
    intro e2
    have h := h e2
    intro v5 e3
    have h := h v5 e3
    refine ⟨?_, ?_⟩
    · have h := h.1
      intro e4
      have h := h e4
      intro e5
      have h := h.2
      exact hQ _ _ h
    · have h := h.2
      refine ⟨?_, ?_⟩
      · have h := h.1
        intro e6
        have h := h e6
        intro e7
        have h := h.2
        exact hQ _ _ h
      · have h := h.2
        refine ⟨?_, ?_⟩
        · have h := h.1
          intro e8
          have h := h e8
          intro e9
          have h := h.2
          refine ⟨?_, ?_⟩
          · have h := h.1
            intro e10
            have h := h e10
            exact hQ _ _ h
          · have h := h.2
            intro e11
            have h := h e11
            intro e12
            have h := h.2
            exact hQ _ _ h
        · have h := h.2
          refine ⟨?_, ?_⟩
          · have h := h.1
            intro e13
            have h := h e13
            intro e14
            have h := h.2
            exact hQ _ _ h
          · have h := h.2
            refine ⟨?_, ?_⟩
            · have h := h.1
              intro e15
              have h := h e15
              intro e16
              have h := h.2
              exact hQ _ _ h
            · have h := h.2
              intro e17 e18 e19 e20 e21
              have h := h e17 e18 e19 e20 e21
              refine jaX12_fail ?_ _ h
              intro r19 μ18 h
              exact hQ _ _ h
  · have h := h.2
    intro e22
    have h := h e22
    refine jaX12_fail ?_ _ h
    intro r21 μ20 h
    exact hQ _ _ h
set_option maxRecDepth 100000 in
set_option maxHeartbeats 4000000 in
theorem jfX12_water {I : km_S → Prop} (W : gw_ I [1]) {Q : Int32 → km_S → Prop} (hQ : ∀ y0 y1, I y1 → Q y0 y1) : ∀ (l1 : Int32) (l2 : Int32) (μ : km_S), I μ → vX12_water l1 l2 μ Q := by
  intro l1 l2 μ i
  unfold vX12_water
  intro μ1 e1
  have iμ1 : I μ1 := by rw [e1]; exact ((W _ i) 1 (by decide)).1 _
  refine jfX12_isReach (I := I) (gw_sub W (by decide)) ?_ _ _ iμ1
  intro r3 μ2 iμ2
  refine ⟨?_, ?_⟩
  · intro e2
    intro v5 e3
    refine ⟨?_, ?_⟩
    · intro e4
      intro e5
      exact hQ _ _ iμ2
    · refine ⟨?_, ?_⟩
      · intro e6
        intro e7
        exact hQ _ _ iμ2
      · refine ⟨?_, ?_⟩
        · intro e8
          intro e9
          refine ⟨?_, ?_⟩
          · intro e10
            exact hQ _ _ iμ2
          · intro e11
            intro e12
            exact hQ _ _ iμ2
        · refine ⟨?_, ?_⟩
          · intro e13
            intro e14
            exact hQ _ _ iμ2
          · refine ⟨?_, ?_⟩
            · intro e15
              intro e16
              exact hQ _ _ iμ2
            · intro e17 e18 e19 e20 e21
              refine jfX12_fail (I := I) (gw_sub W (by decide)) ?_ _ iμ2
              intro r19 μ18 iμ18
              exact hQ _ _ iμ18
  · intro e22
    refine jfX12_fail (I := I) (gw_sub W (by decide)) ?_ _ iμ2
    intro r21 μ20 iμ20
    exact hQ _ _ iμ20
def vX12_waters (l1 : Int32) (μ : km_S) (Q : Int64 → km_S → Prop) : Prop := ∀ μ1, μ1 = km_si μ 1 0 → ((¬ l1 = 0 → ((¬ l1 = 1 → vX12_fail μ1 (fun r5 μ4 => Q r5.toInt64 μ4)) ∧ (l1 = 1 → Q (km_l μ1 12) μ1))) ∧ (l1 = 0 → Q (km_l μ1 11) μ1))
set_option maxRecDepth 100000 in
set_option maxHeartbeats 4000000 in
theorem jcX12_waters {Q Q' Q'' : Int64 → km_S → Prop} (hQ : ∀ y0 y1, Q y0 y1 → Q' y0 y1 → Q'' y0 y1) : ∀ (l1 : Int32) (μ : km_S), wX12_waters l1 μ Q → vX12_waters l1 μ Q' → wX12_waters l1 μ Q'' := by
  intro l1 μ h v
  unfold wX12_waters at h
  unfold vX12_waters at v
  unfold wX12_waters
  intro μ1 e1
  have h := h μ1 e1
  have v := v μ1 e1
  refine ⟨?_, ?_⟩
  · have h := h.1
    have v := v.1
    intro e2
    have h := h e2
    have v := v e2
    refine ⟨?_, ?_⟩
    · have h := h.1
      have v := v.1
      intro e3
      have h := h e3
      have v := v e3
      refine jcX12_fail ?_ _ h v
      intro r5 μ4 h v
      exact hQ _ _ h v
    · have h := h.2
      have v := v.2
      intro e4
      have h := h e4
      have v := v e4
      exact hQ _ _ h v
  · have h := h.2
    have v := v.2
    intro e5
    have h := h e5
    have v := v e5
    exact hQ _ _ h v
set_option maxRecDepth 100000 in
set_option maxHeartbeats 4000000 in
theorem jaX12_waters {Q Q' : Int64 → km_S → Prop} (hQ : ∀ y0 y1, Q y0 y1 → Q' y0 y1) : ∀ (l1 : Int32) (μ : km_S), wX12_waters l1 μ Q → vX12_waters l1 μ Q' := by
  intro l1 μ h
  unfold wX12_waters at h
  unfold vX12_waters
  intro μ1 e1
  have h := h μ1 e1
  refine ⟨?_, ?_⟩
  · have h := h.1
    intro e2
    have h := h e2
    refine ⟨?_, ?_⟩
    · have h := h.1
      intro e3
      have h := h e3
      refine jaX12_fail ?_ _ h
      intro r5 μ4 h
      exact hQ _ _ h
    · have h := h.2
      intro e4
      have h := h e4
      exact hQ _ _ h
  · have h := h.2
    intro e5
    have h := h e5
    exact hQ _ _ h
set_option maxRecDepth 100000 in
set_option maxHeartbeats 4000000 in
theorem jfX12_waters {I : km_S → Prop} (W : gw_ I [1]) {Q : Int64 → km_S → Prop} (hQ : ∀ y0 y1, I y1 → Q y0 y1) : ∀ (l1 : Int32) (μ : km_S), I μ → vX12_waters l1 μ Q := by
  intro l1 μ i
  unfold vX12_waters
  intro μ1 e1
  have iμ1 : I μ1 := by rw [e1]; exact ((W _ i) 1 (by decide)).1 _
  refine ⟨?_, ?_⟩
  · intro e2
    refine ⟨?_, ?_⟩
    · intro e3
      refine jfX12_fail (I := I) (gw_sub W (by decide)) ?_ _ iμ1
      intro r5 μ4 iμ4
      exact hQ _ _ iμ4
    · intro e4
      exact hQ _ _ iμ1
  · intro e5
    exact hQ _ _ iμ1
def vX12_board_17 (Q : Int32 → km_S → Prop) (μ : km_S) : Prop := vX12_fail μ (fun r2 μ1 => Q r2 μ1)
set_option maxRecDepth 100000 in
set_option maxHeartbeats 4000000 in
theorem jcX12_board_17 {Q Q' Q'' : Int32 → km_S → Prop} (hQ : ∀ y0 y1, Q y0 y1 → Q' y0 y1 → Q'' y0 y1) : ∀ (μ : km_S), wX12_board_17 Q μ → vX12_board_17 Q' μ → wX12_board_17 Q'' μ := by
  intro μ h v
  unfold wX12_board_17 at h
  unfold vX12_board_17 at v
  unfold wX12_board_17
  refine jcX12_fail ?_ _ h v
  intro r2 μ1 h v
  exact hQ _ _ h v
set_option maxRecDepth 100000 in
set_option maxHeartbeats 4000000 in
theorem jaX12_board_17 {Q Q' : Int32 → km_S → Prop} (hQ : ∀ y0 y1, Q y0 y1 → Q' y0 y1) : ∀ (μ : km_S), wX12_board_17 Q μ → vX12_board_17 Q' μ := by
  intro μ h
  unfold wX12_board_17 at h
  unfold vX12_board_17
  refine jaX12_fail ?_ _ h
  intro r2 μ1 h
  exact hQ _ _ h
set_option maxRecDepth 100000 in
set_option maxHeartbeats 4000000 in
theorem jfX12_board_17 {I : km_S → Prop} (W : gw_ I [1]) {Q : Int32 → km_S → Prop} (hQ : ∀ y0 y1, I y1 → Q y0 y1) : ∀ (μ : km_S), I μ → vX12_board_17 Q μ := by
  intro μ i
  unfold vX12_board_17
  refine jfX12_fail (I := I) (gw_sub W (by decide)) ?_ _ i
  intro r2 μ1 iμ1
  exact hQ _ _ iμ1
def vX12_board (l1 : Int32) (μ : km_S) (Q : Int32 → km_S → Prop) : Prop := ∀ μ3, μ3 = km_si μ 1 0 → ((l1 < 0 → vX12_board_17 Q μ3) ∧ (¬ (l1 < 0) → ((l1 < (km_i μ3 6) → vp_in l1 3600 → Q (km_a μ3 43 l1.toNatClampNeg) μ3) ∧ (¬ (l1 < (km_i μ3 6)) → vX12_board_17 Q μ3))))
set_option maxRecDepth 100000 in
set_option maxHeartbeats 4000000 in
theorem jcX12_board {Q Q' Q'' : Int32 → km_S → Prop} (hQ : ∀ y0 y1, Q y0 y1 → Q' y0 y1 → Q'' y0 y1) : ∀ (l1 : Int32) (μ : km_S), wX12_board l1 μ Q → vX12_board l1 μ Q' → wX12_board l1 μ Q'' := by
  intro l1 μ h v
  unfold wX12_board at h
  unfold vX12_board at v
  unfold wX12_board
  intro μ3 e1
  have h := h μ3 e1
  have v := v μ3 e1
  refine ⟨?_, ?_⟩
  · have h := h.1
    have v := v.1
    intro e2
    have h := h e2
    have v := v e2
    exact jcX12_board_17 hQ _ h v
  · have h := h.2
    have v := v.2
    intro e3
    have h := h e3
    have v := v e3
    refine ⟨?_, ?_⟩
    · have h := h.1
      have v := v.1
      intro e4
      have h := h e4
      have v := v e4
      refine ⟨h.1, ?_⟩
      have v := v h.1
      have h := h.2
      exact hQ _ _ h v
    · have h := h.2
      have v := v.2
      intro e6
      have h := h e6
      have v := v e6
      exact jcX12_board_17 hQ _ h v
set_option maxRecDepth 100000 in
set_option maxHeartbeats 4000000 in
theorem jaX12_board {Q Q' : Int32 → km_S → Prop} (hQ : ∀ y0 y1, Q y0 y1 → Q' y0 y1) : ∀ (l1 : Int32) (μ : km_S), wX12_board l1 μ Q → vX12_board l1 μ Q' := by
  intro l1 μ h
  unfold wX12_board at h
  unfold vX12_board
  intro μ3 e1
  have h := h μ3 e1
  refine ⟨?_, ?_⟩
  · have h := h.1
    intro e2
    have h := h e2
    exact jaX12_board_17 hQ _ h
  · have h := h.2
    intro e3
    have h := h e3
    refine ⟨?_, ?_⟩
    · have h := h.1
      intro e4
      have h := h e4
      intro e5
      have h := h.2
      exact hQ _ _ h
    · have h := h.2
      intro e6
      have h := h e6
      exact jaX12_board_17 hQ _ h
set_option maxRecDepth 100000 in
set_option maxHeartbeats 4000000 in
theorem jfX12_board {I : km_S → Prop} (W : gw_ I [1]) {Q : Int32 → km_S → Prop} (hQ : ∀ y0 y1, I y1 → Q y0 y1) : ∀ (l1 : Int32) (μ : km_S), I μ → vX12_board l1 μ Q := by
  intro l1 μ i
  unfold vX12_board
  intro μ3 e1
  have iμ3 : I μ3 := by rw [e1]; exact ((W _ i) 1 (by decide)).1 _
  refine ⟨?_, ?_⟩
  · intro e2
    exact jfX12_board_17 (I := I) (gw_sub W (by decide)) hQ _ iμ3
  · intro e3
    refine ⟨?_, ?_⟩
    · intro e4
      intro e5
      exact hQ _ _ iμ3
    · intro e6
      exact jfX12_board_17 (I := I) (gw_sub W (by decide)) hQ _ iμ3
def vX12_paid_15 (Q : Int64 → km_S → Prop) (μ : km_S) : Prop := vX12_fail μ (fun r2 μ1 => Q r2.toInt64 μ1)
set_option maxRecDepth 100000 in
set_option maxHeartbeats 4000000 in
theorem jcX12_paid_15 {Q Q' Q'' : Int64 → km_S → Prop} (hQ : ∀ y0 y1, Q y0 y1 → Q' y0 y1 → Q'' y0 y1) : ∀ (μ : km_S), wX12_paid_15 Q μ → vX12_paid_15 Q' μ → wX12_paid_15 Q'' μ := by
  intro μ h v
  unfold wX12_paid_15 at h
  unfold vX12_paid_15 at v
  unfold wX12_paid_15
  refine jcX12_fail ?_ _ h v
  intro r2 μ1 h v
  exact hQ _ _ h v
set_option maxRecDepth 100000 in
set_option maxHeartbeats 4000000 in
theorem jaX12_paid_15 {Q Q' : Int64 → km_S → Prop} (hQ : ∀ y0 y1, Q y0 y1 → Q' y0 y1) : ∀ (μ : km_S), wX12_paid_15 Q μ → vX12_paid_15 Q' μ := by
  intro μ h
  unfold wX12_paid_15 at h
  unfold vX12_paid_15
  refine jaX12_fail ?_ _ h
  intro r2 μ1 h
  exact hQ _ _ h
set_option maxRecDepth 100000 in
set_option maxHeartbeats 4000000 in
theorem jfX12_paid_15 {I : km_S → Prop} (W : gw_ I [1]) {Q : Int64 → km_S → Prop} (hQ : ∀ y0 y1, I y1 → Q y0 y1) : ∀ (μ : km_S), I μ → vX12_paid_15 Q μ := by
  intro μ i
  unfold vX12_paid_15
  refine jfX12_fail (I := I) (gw_sub W (by decide)) ?_ _ i
  intro r2 μ1 iμ1
  exact hQ _ _ iμ1
def vX12_paid (l1 : Int32) (μ : km_S) (Q : Int64 → km_S → Prop) : Prop := ∀ μ3, μ3 = km_si μ 1 0 → ((l1 < 0 → vX12_paid_15 Q μ3) ∧ (¬ (l1 < 0) → ((l1 ≤ 15 → vp_in l1 16 → Q (km_p μ3 l1.toNatClampNeg) μ3) ∧ (¬ (l1 ≤ 15) → vX12_paid_15 Q μ3))))
set_option maxRecDepth 100000 in
set_option maxHeartbeats 4000000 in
theorem jcX12_paid {Q Q' Q'' : Int64 → km_S → Prop} (hQ : ∀ y0 y1, Q y0 y1 → Q' y0 y1 → Q'' y0 y1) : ∀ (l1 : Int32) (μ : km_S), wX12_paid l1 μ Q → vX12_paid l1 μ Q' → wX12_paid l1 μ Q'' := by
  intro l1 μ h v
  unfold wX12_paid at h
  unfold vX12_paid at v
  unfold wX12_paid
  intro μ3 e1
  have h := h μ3 e1
  have v := v μ3 e1
  refine ⟨?_, ?_⟩
  · have h := h.1
    have v := v.1
    intro e2
    have h := h e2
    have v := v e2
    exact jcX12_paid_15 hQ _ h v
  · have h := h.2
    have v := v.2
    intro e3
    have h := h e3
    have v := v e3
    refine ⟨?_, ?_⟩
    · have h := h.1
      have v := v.1
      intro e4
      have h := h e4
      have v := v e4
      refine ⟨h.1, ?_⟩
      have v := v h.1
      have h := h.2
      exact hQ _ _ h v
    · have h := h.2
      have v := v.2
      intro e6
      have h := h e6
      have v := v e6
      exact jcX12_paid_15 hQ _ h v
set_option maxRecDepth 100000 in
set_option maxHeartbeats 4000000 in
theorem jaX12_paid {Q Q' : Int64 → km_S → Prop} (hQ : ∀ y0 y1, Q y0 y1 → Q' y0 y1) : ∀ (l1 : Int32) (μ : km_S), wX12_paid l1 μ Q → vX12_paid l1 μ Q' := by
  intro l1 μ h
  unfold wX12_paid at h
  unfold vX12_paid
  intro μ3 e1
  have h := h μ3 e1
  refine ⟨?_, ?_⟩
  · have h := h.1
    intro e2
    have h := h e2
    exact jaX12_paid_15 hQ _ h
  · have h := h.2
    intro e3
    have h := h e3
    refine ⟨?_, ?_⟩
    · have h := h.1
      intro e4
      have h := h e4
      intro e5
      have h := h.2
      exact hQ _ _ h
    · have h := h.2
      intro e6
      have h := h e6
      exact jaX12_paid_15 hQ _ h
set_option maxRecDepth 100000 in
set_option maxHeartbeats 4000000 in
theorem jfX12_paid {I : km_S → Prop} (W : gw_ I [1]) {Q : Int64 → km_S → Prop} (hQ : ∀ y0 y1, I y1 → Q y0 y1) : ∀ (l1 : Int32) (μ : km_S), I μ → vX12_paid l1 μ Q := by
  intro l1 μ i
  unfold vX12_paid
  intro μ3 e1
  have iμ3 : I μ3 := by rw [e1]; exact ((W _ i) 1 (by decide)).1 _
  refine ⟨?_, ?_⟩
  · intro e2
    exact jfX12_paid_15 (I := I) (gw_sub W (by decide)) hQ _ iμ3
  · intro e3
    refine ⟨?_, ?_⟩
    · intro e4
      intro e5
      exact hQ _ _ iμ3
    · intro e6
      exact jfX12_paid_15 (I := I) (gw_sub W (by decide)) hQ _ iμ3
def vX12_count_53 (k12 : Int32 → Int32 → Int32 → Int32 → km_S → Prop) (Q : Int32 → km_S → Prop) (l1 : Int32) (l2 : Int32) (l4 : Int32) (s0 : Int32) (s1 : Int32) (μ : km_S) : Prop := ∀ v1, v1 = s1 + s0 → ∀ v2 : Int32, v2 = l4 + 1 → k12 l1 l2 v1 v2 μ
set_option maxRecDepth 100000 in
set_option maxHeartbeats 4000000 in
theorem jcX12_count_53 {k12 k12' k12'' : Int32 → Int32 → Int32 → Int32 → km_S → Prop} (hk12 : ∀ y0 y1 y2 y3 y4, k12 y0 y1 y2 y3 y4 → k12' y0 y1 y2 y3 y4 → k12'' y0 y1 y2 y3 y4) {Q Q' Q'' : Int32 → km_S → Prop} (hQ : ∀ y0 y1, Q y0 y1 → Q' y0 y1 → Q'' y0 y1) : ∀ (l1 : Int32) (l2 : Int32) (l4 : Int32) (s0 : Int32) (s1 : Int32) (μ : km_S), wX12_count_53 k12 Q l1 l2 l4 s0 s1 μ → vX12_count_53 k12' Q' l1 l2 l4 s0 s1 μ → wX12_count_53 k12'' Q'' l1 l2 l4 s0 s1 μ := by
  intro l1 l2 l4 s0 s1 μ h v
  unfold wX12_count_53 at h
  unfold vX12_count_53 at v
  unfold wX12_count_53
  intro v1 e1
  have h := h v1 e1
  have v := v v1 e1
  intro v2 e2
  have h := h v2 e2
  have v := v v2 e2
  exact hk12 _ _ _ _ _ h v
set_option maxRecDepth 100000 in
set_option maxHeartbeats 4000000 in
theorem jaX12_count_53 {k12 k12' : Int32 → Int32 → Int32 → Int32 → km_S → Prop} (hk12 : ∀ y0 y1 y2 y3 y4, k12 y0 y1 y2 y3 y4 → k12' y0 y1 y2 y3 y4) {Q Q' : Int32 → km_S → Prop} (hQ : ∀ y0 y1, Q y0 y1 → Q' y0 y1) : ∀ (l1 : Int32) (l2 : Int32) (l4 : Int32) (s0 : Int32) (s1 : Int32) (μ : km_S), wX12_count_53 k12 Q l1 l2 l4 s0 s1 μ → vX12_count_53 k12' Q' l1 l2 l4 s0 s1 μ := by
  intro l1 l2 l4 s0 s1 μ h
  unfold wX12_count_53 at h
  unfold vX12_count_53
  intro v1 e1
  have h := h v1 e1
  intro v2 e2
  have h := h v2 e2
  exact hk12 _ _ _ _ _ h
set_option maxRecDepth 100000 in
set_option maxHeartbeats 4000000 in
theorem jfX12_count_53 {I : km_S → Prop} (W : gw_ I []) {k12 : Int32 → Int32 → Int32 → Int32 → km_S → Prop} (hk12 : ∀ y0 y1 y2 y3 y4, I y4 → k12 y0 y1 y2 y3 y4) {Q : Int32 → km_S → Prop} (hQ : ∀ y0 y1, I y1 → Q y0 y1) : ∀ (l1 : Int32) (l2 : Int32) (l4 : Int32) (s0 : Int32) (s1 : Int32) (μ : km_S), I μ → vX12_count_53 k12 Q l1 l2 l4 s0 s1 μ := by
  intro l1 l2 l4 s0 s1 μ i
  unfold vX12_count_53
  intro v1 e1
  intro v2 e2
  exact hk12 _ _ _ _ _ i
def vX12_count_35 (k12 : Int32 → Int32 → Int32 → Int32 → km_S → Prop) (Q : Int32 → km_S → Prop) (l1 : Int32) (l3 : Int32) (l4 : Int32) (s0 : Int32) (s1 : Int32) (μ : km_S) : Prop := ∀ v3, v3 = s1 + s0 → vp_in l4 120 → (((km_a μ 34 l4.toNatClampNeg) = 0 → vX12_count_53 k12 Q l1 v3 l4 0 l3 μ) ∧ (¬ ((km_a μ 34 l4.toNatClampNeg) = 0) → vX12_count_53 k12 Q l1 v3 l4 1 l3 μ))
set_option maxRecDepth 100000 in
set_option maxHeartbeats 4000000 in
theorem jcX12_count_35 {k12 k12' k12'' : Int32 → Int32 → Int32 → Int32 → km_S → Prop} (hk12 : ∀ y0 y1 y2 y3 y4, k12 y0 y1 y2 y3 y4 → k12' y0 y1 y2 y3 y4 → k12'' y0 y1 y2 y3 y4) {Q Q' Q'' : Int32 → km_S → Prop} (hQ : ∀ y0 y1, Q y0 y1 → Q' y0 y1 → Q'' y0 y1) : ∀ (l1 : Int32) (l3 : Int32) (l4 : Int32) (s0 : Int32) (s1 : Int32) (μ : km_S), wX12_count_35 k12 Q l1 l3 l4 s0 s1 μ → vX12_count_35 k12' Q' l1 l3 l4 s0 s1 μ → wX12_count_35 k12'' Q'' l1 l3 l4 s0 s1 μ := by
  intro l1 l3 l4 s0 s1 μ h v
  unfold wX12_count_35 at h
  unfold vX12_count_35 at v
  unfold wX12_count_35
  intro v3 e1
  have h := h v3 e1
  have v := v v3 e1
  refine ⟨h.1, ?_⟩
  have v := v h.1
  have h := h.2
  refine ⟨?_, ?_⟩
  · have h := h.1
    have v := v.1
    intro e3
    have h := h e3
    have v := v e3
    exact jcX12_count_53 hk12 hQ _ _ _ _ _ _ h v
  · have h := h.2
    have v := v.2
    intro e4
    have h := h e4
    have v := v e4
    exact jcX12_count_53 hk12 hQ _ _ _ _ _ _ h v
set_option maxRecDepth 100000 in
set_option maxHeartbeats 4000000 in
theorem jaX12_count_35 {k12 k12' : Int32 → Int32 → Int32 → Int32 → km_S → Prop} (hk12 : ∀ y0 y1 y2 y3 y4, k12 y0 y1 y2 y3 y4 → k12' y0 y1 y2 y3 y4) {Q Q' : Int32 → km_S → Prop} (hQ : ∀ y0 y1, Q y0 y1 → Q' y0 y1) : ∀ (l1 : Int32) (l3 : Int32) (l4 : Int32) (s0 : Int32) (s1 : Int32) (μ : km_S), wX12_count_35 k12 Q l1 l3 l4 s0 s1 μ → vX12_count_35 k12' Q' l1 l3 l4 s0 s1 μ := by
  intro l1 l3 l4 s0 s1 μ h
  unfold wX12_count_35 at h
  unfold vX12_count_35
  intro v3 e1
  have h := h v3 e1
  intro e2
  have h := h.2
  refine ⟨?_, ?_⟩
  · have h := h.1
    intro e3
    have h := h e3
    exact jaX12_count_53 hk12 hQ _ _ _ _ _ _ h
  · have h := h.2
    intro e4
    have h := h e4
    exact jaX12_count_53 hk12 hQ _ _ _ _ _ _ h
set_option maxRecDepth 100000 in
set_option maxHeartbeats 4000000 in
theorem jfX12_count_35 {I : km_S → Prop} (W : gw_ I []) {k12 : Int32 → Int32 → Int32 → Int32 → km_S → Prop} (hk12 : ∀ y0 y1 y2 y3 y4, I y4 → k12 y0 y1 y2 y3 y4) {Q : Int32 → km_S → Prop} (hQ : ∀ y0 y1, I y1 → Q y0 y1) : ∀ (l1 : Int32) (l3 : Int32) (l4 : Int32) (s0 : Int32) (s1 : Int32) (μ : km_S), I μ → vX12_count_35 k12 Q l1 l3 l4 s0 s1 μ := by
  intro l1 l3 l4 s0 s1 μ i
  unfold vX12_count_35
  intro v3 e1
  intro e2
  refine ⟨?_, ?_⟩
  · intro e3
    exact jfX12_count_53 (I := I) (gw_sub W (by decide)) hk12 hQ _ _ _ _ _ _ i
  · intro e4
    exact jfX12_count_53 (I := I) (gw_sub W (by decide)) hk12 hQ _ _ _ _ _ _ i

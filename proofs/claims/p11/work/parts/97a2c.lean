section
def vX12_cell_23 (Q : Int32 → km_S → Prop) (μ : km_S) : Prop := vX12_fail μ (fun r2 μ1 => Q r2 μ1)
set_option maxRecDepth 100000 in
set_option maxHeartbeats 4000000 in
theorem jcX12_cell_23 {Q Q' Q'' : Int32 → km_S → Prop} (hQ : ∀ y0 y1, Q y0 y1 → Q' y0 y1 → Q'' y0 y1) : ∀ (μ : km_S), wX12_cell_23 Q μ → vX12_cell_23 Q' μ → wX12_cell_23 Q'' μ := by
  intro μ h v
  unfold wX12_cell_23 at h
  unfold vX12_cell_23 at v
  unfold wX12_cell_23
  refine jcX12_fail ?_ _ h v
  intro r2 μ1 h v
  exact hQ _ _ h v
set_option maxRecDepth 100000 in
set_option maxHeartbeats 4000000 in
theorem jaX12_cell_23 {Q Q' : Int32 → km_S → Prop} (hQ : ∀ y0 y1, Q y0 y1 → Q' y0 y1) : ∀ (μ : km_S), wX12_cell_23 Q μ → vX12_cell_23 Q' μ := by
  intro μ h
  unfold wX12_cell_23 at h
  unfold vX12_cell_23
  refine jaX12_fail ?_ _ h
  intro r2 μ1 h
  exact hQ _ _ h
set_option maxRecDepth 100000 in
set_option maxHeartbeats 4000000 in
theorem jfX12_cell_23 {I : km_S → Prop} (W : gw_ I [1]) {Q : Int32 → km_S → Prop} (hQ : ∀ y0 y1, I y1 → Q y0 y1) : ∀ (μ : km_S), I μ → vX12_cell_23 Q μ := by
  intro μ i
  unfold vX12_cell_23
  refine jfX12_fail (I := I) (gw_sub W (by decide)) ?_ _ i
  intro r2 μ1 iμ1
  exact hQ _ _ iμ1
def vX12_cell (l1 : Int32) (l2 : Int32) (l3 : Int32) (μ : km_S) (Q : Int32 → km_S → Prop) : Prop := ∀ μ3, μ3 = km_si μ 1 0 → vX12_isCell l1 l2 μ3 (fun r5 μ4 => ((r5 = 0 → vX12_cell_23 Q μ4) ∧ (¬ (r5 = 0) → ((l3 < 0 → vX12_cell_23 Q μ4) ∧ (¬ (l3 < 0) → ((l3 ≤ 2 → vX12_at0 l1 l2 μ4 (fun r10 μ9 => ((¬ l3 = 0 → ((¬ l3 = 1 → vp_in r10 120 → (((km_a μ9 34 r10.toNatClampNeg) = 0 → Q 0 μ9) ∧ (¬ ((km_a μ9 34 r10.toNatClampNeg) = 0) → Q 1 μ9))) ∧ (l3 = 1 → vp_in r10 120 → (((km_a μ9 33 r10.toNatClampNeg) = 0 → Q 0 μ9) ∧ (¬ ((km_a μ9 33 r10.toNatClampNeg) = 0) → Q 1 μ9))))) ∧ (l3 = 0 → vp_in r10 120 → Q (km_a μ9 31 r10.toNatClampNeg) μ9)))) ∧ (¬ (l3 ≤ 2) → vX12_cell_23 Q μ4)))))))
set_option maxRecDepth 100000 in
set_option maxHeartbeats 4000000 in
theorem jcX12_cell {Q Q' Q'' : Int32 → km_S → Prop} (hQ : ∀ y0 y1, Q y0 y1 → Q' y0 y1 → Q'' y0 y1) : ∀ (l1 : Int32) (l2 : Int32) (l3 : Int32) (μ : km_S), wX12_cell l1 l2 l3 μ Q → vX12_cell l1 l2 l3 μ Q' → wX12_cell l1 l2 l3 μ Q'' := by
  intro l1 l2 l3 μ h v
  unfold wX12_cell at h
  unfold vX12_cell at v
  unfold wX12_cell
  intro μ3 e1
  have h := h μ3 e1
  have v := v μ3 e1
  refine jcX12_isCell ?_ _ _ _ h v
  intro r5 μ4 h v
  refine ⟨?_, ?_⟩
  · have h := h.1
    have v := v.1
    intro e2
    have h := h e2
    have v := v e2
    exact jcX12_cell_23 hQ _ h v
  · have h := h.2
    have v := v.2
    intro e3
    have h := h e3
    have v := v e3
    refine ⟨?_, ?_⟩
    · have h := h.1
      have v := v.1
      intro e4
      have h := h e4
      have v := v e4
      exact jcX12_cell_23 hQ _ h v
    · have h := h.2
      have v := v.2
      intro e5
      have h := h e5
      have v := v e5
      refine ⟨?_, ?_⟩
      · have h := h.1
        have v := v.1
        intro e6
        have h := h e6
        have v := v e6
        refine jcX12_at0 ?_ _ _ _ h v
        intro r10 μ9 h v
        refine ⟨?_, ?_⟩
        · have h := h.1
          have v := v.1
          intro e7
          have h := h e7
          have v := v e7
          refine ⟨?_, ?_⟩
          · have h := h.1
            have v := v.1
            intro e8
            have h := h e8
            have v := v e8
            refine ⟨h.1, ?_⟩
            have v := v h.1
            have h := h.2
            refine ⟨?_, ?_⟩
            · have h := h.1
              have v := v.1
              intro e10
              have h := h e10
              have v := v e10
              exact hQ _ _ h v
            · have h := h.2
              have v := v.2
              intro e11
              have h := h e11
              have v := v e11
              exact hQ _ _ h v
          · have h := h.2
            have v := v.2
            intro e12
            have h := h e12
            have v := v e12
            refine ⟨h.1, ?_⟩
            have v := v h.1
            have h := h.2
            refine ⟨?_, ?_⟩
            · have h := h.1
              have v := v.1
              intro e14
              have h := h e14
              have v := v e14
              exact hQ _ _ h v
            · have h := h.2
              have v := v.2
              intro e15
              have h := h e15
              have v := v e15
              exact hQ _ _ h v
        · have h := h.2
          have v := v.2
          intro e16
          have h := h e16
          have v := v e16
          refine ⟨h.1, ?_⟩
          have v := v h.1
          have h := h.2
          exact hQ _ _ h v
      · have h := h.2
        have v := v.2
        intro e18
        have h := h e18
        have v := v e18
        exact jcX12_cell_23 hQ _ h v
set_option maxRecDepth 100000 in
set_option maxHeartbeats 4000000 in
theorem jaX12_cell {Q Q' : Int32 → km_S → Prop} (hQ : ∀ y0 y1, Q y0 y1 → Q' y0 y1) : ∀ (l1 : Int32) (l2 : Int32) (l3 : Int32) (μ : km_S), wX12_cell l1 l2 l3 μ Q → vX12_cell l1 l2 l3 μ Q' := by
  intro l1 l2 l3 μ h
  unfold wX12_cell at h
  unfold vX12_cell
  intro μ3 e1
  have h := h μ3 e1
  refine jaX12_isCell ?_ _ _ _ h
  intro r5 μ4 h
  refine ⟨?_, ?_⟩
  · have h := h.1
    intro e2
    have h := h e2
    exact jaX12_cell_23 hQ _ h
  · have h := h.2
    intro e3
    have h := h e3
    refine ⟨?_, ?_⟩
    · have h := h.1
      intro e4
      have h := h e4
      exact jaX12_cell_23 hQ _ h
    · have h := h.2
      intro e5
      have h := h e5
      refine ⟨?_, ?_⟩
      · have h := h.1
        intro e6
        have h := h e6
        refine jaX12_at0 ?_ _ _ _ h
        intro r10 μ9 h
        refine ⟨?_, ?_⟩
        · have h := h.1
          intro e7
          have h := h e7
          refine ⟨?_, ?_⟩
          · have h := h.1
            intro e8
            have h := h e8
            intro e9
            have h := h.2
            refine ⟨?_, ?_⟩
            · have h := h.1
              intro e10
              have h := h e10
              exact hQ _ _ h
            · have h := h.2
              intro e11
              have h := h e11
              exact hQ _ _ h
          · have h := h.2
            intro e12
            have h := h e12
            intro e13
            have h := h.2
            refine ⟨?_, ?_⟩
            · have h := h.1
              intro e14
              have h := h e14
              exact hQ _ _ h
            · have h := h.2
              intro e15
              have h := h e15
              exact hQ _ _ h
        · have h := h.2
          intro e16
          have h := h e16
          intro e17
          have h := h.2
          exact hQ _ _ h
      · have h := h.2
        intro e18
        have h := h e18
        exact jaX12_cell_23 hQ _ h
set_option maxRecDepth 100000 in
set_option maxHeartbeats 4000000 in
theorem jfX12_cell {I : km_S → Prop} (W : gw_ I [1]) {Q : Int32 → km_S → Prop} (hQ : ∀ y0 y1, I y1 → Q y0 y1) : ∀ (l1 : Int32) (l2 : Int32) (l3 : Int32) (μ : km_S), I μ → vX12_cell l1 l2 l3 μ Q := by
  intro l1 l2 l3 μ i
  unfold vX12_cell
  intro μ3 e1
  have iμ3 : I μ3 := by rw [e1]; exact ((W _ i) 1 (by decide)).1 _
  refine jfX12_isCell (I := I) (gw_sub W (by decide)) ?_ _ _ _ iμ3
  intro r5 μ4 iμ4
  refine ⟨?_, ?_⟩
  · intro e2
    exact jfX12_cell_23 (I := I) (gw_sub W (by decide)) hQ _ iμ4
  · intro e3
    refine ⟨?_, ?_⟩
    · intro e4
      exact jfX12_cell_23 (I := I) (gw_sub W (by decide)) hQ _ iμ4
    · intro e5
      refine ⟨?_, ?_⟩
      · intro e6
        refine jfX12_at0 (I := I) (gw_sub W (by decide)) ?_ _ _ _ iμ4
        intro r10 μ9 iμ9
        refine ⟨?_, ?_⟩
        · intro e7
          refine ⟨?_, ?_⟩
          · intro e8
            intro e9
            refine ⟨?_, ?_⟩
            · intro e10
              exact hQ _ _ iμ9
            · intro e11
              exact hQ _ _ iμ9
          · intro e12
            intro e13
            refine ⟨?_, ?_⟩
            · intro e14
              exact hQ _ _ iμ9
            · intro e15
              exact hQ _ _ iμ9
        · intro e16
          intro e17
          exact hQ _ _ iμ9
      · intro e18
        exact jfX12_cell_23 (I := I) (gw_sub W (by decide)) hQ _ iμ4
def vX12_inCell (l1 : Int32) (l2 : Int32) (l3 : Int32) (μ : km_S) (Q : Int32 → km_S → Prop) : Prop := ∀ μ1, μ1 = km_si μ 1 0 → vX12_isCell l1 l2 μ1 (fun r3 μ2 => ((¬ r3 = 0 → ((l3 < 0 → Q (-1) μ2) ∧ (¬ (l3 < 0) → vX12_at0 l1 l2 μ2 (fun r7 μ6 => vp_in r7 120 → ((l3 < (km_a μ6 31 r7.toNatClampNeg) → vX12_at0 l1 l2 μ6 (fun r11 μ10 => vp_in ((20 * r11) + l3) 2400 → Q (km_a μ10 32 ((20 * r11) + l3).toNatClampNeg) μ10)) ∧ (¬ (l3 < (km_a μ6 31 r7.toNatClampNeg)) → Q (-1) μ6)))))) ∧ (r3 = 0 → vX12_fail μ2 (fun r14 μ13 => Q r14 μ13))))
set_option maxRecDepth 100000 in
set_option maxHeartbeats 4000000 in
theorem jcX12_inCell {Q Q' Q'' : Int32 → km_S → Prop} (hQ : ∀ y0 y1, Q y0 y1 → Q' y0 y1 → Q'' y0 y1) : ∀ (l1 : Int32) (l2 : Int32) (l3 : Int32) (μ : km_S), wX12_inCell l1 l2 l3 μ Q → vX12_inCell l1 l2 l3 μ Q' → wX12_inCell l1 l2 l3 μ Q'' := by
  intro l1 l2 l3 μ h v
  unfold wX12_inCell at h
  unfold vX12_inCell at v
  unfold wX12_inCell
  intro μ1 e1
  have h := h μ1 e1
  have v := v μ1 e1
  refine jcX12_isCell ?_ _ _ _ h v
  intro r3 μ2 h v
  refine ⟨?_, ?_⟩
  · have h := h.1
    have v := v.1
    intro e2
    have h := h e2
    have v := v e2
    refine ⟨?_, ?_⟩
    · have h := h.1
      have v := v.1
      intro e3
      have h := h e3
      have v := v e3
      exact hQ _ _ h v
    · have h := h.2
      have v := v.2
      intro e4
      have h := h e4
      have v := v e4
      refine jcX12_at0 ?_ _ _ _ h v
      intro r7 μ6 h v
      refine ⟨h.1, ?_⟩
      have v := v h.1
      have h := h.2
      refine ⟨?_, ?_⟩
      · have h := h.1
        have v := v.1
        intro e6
        have h := h e6
        have v := v e6
        refine jcX12_at0 ?_ _ _ _ h v
        intro r11 μ10 h v
        refine ⟨h.1, ?_⟩
        have v := v h.1
        have h := h.2
        exact hQ _ _ h v
      · have h := h.2
        have v := v.2
        intro e8
        have h := h e8
        have v := v e8
        exact hQ _ _ h v
  · have h := h.2
    have v := v.2
    intro e9
    have h := h e9
    have v := v e9
    refine jcX12_fail ?_ _ h v
    intro r14 μ13 h v
    exact hQ _ _ h v
set_option maxRecDepth 100000 in
set_option maxHeartbeats 4000000 in
theorem jaX12_inCell {Q Q' : Int32 → km_S → Prop} (hQ : ∀ y0 y1, Q y0 y1 → Q' y0 y1) : ∀ (l1 : Int32) (l2 : Int32) (l3 : Int32) (μ : km_S), wX12_inCell l1 l2 l3 μ Q → vX12_inCell l1 l2 l3 μ Q' := by
  intro l1 l2 l3 μ h
  unfold wX12_inCell at h
  unfold vX12_inCell
  intro μ1 e1
  have h := h μ1 e1
  refine jaX12_isCell ?_ _ _ _ h
  intro r3 μ2 h
  refine ⟨?_, ?_⟩
  · have h := h.1
    intro e2
    have h := h e2
    refine ⟨?_, ?_⟩
    · have h := h.1
      intro e3
      have h := h e3
      exact hQ _ _ h
    · have h := h.2
      intro e4
      have h := h e4
      refine jaX12_at0 ?_ _ _ _ h
      intro r7 μ6 h
      intro e5
      have h := h.2
      refine ⟨?_, ?_⟩
      · have h := h.1
        intro e6
        have h := h e6
        refine jaX12_at0 ?_ _ _ _ h
        intro r11 μ10 h
        intro e7
        have h := h.2
        exact hQ _ _ h
      · have h := h.2
        intro e8
        have h := h e8
        exact hQ _ _ h
  · have h := h.2
    intro e9
    have h := h e9
    refine jaX12_fail ?_ _ h
    intro r14 μ13 h
    exact hQ _ _ h
set_option maxRecDepth 100000 in
set_option maxHeartbeats 4000000 in
theorem jfX12_inCell {I : km_S → Prop} (W : gw_ I [1]) {Q : Int32 → km_S → Prop} (hQ : ∀ y0 y1, I y1 → Q y0 y1) : ∀ (l1 : Int32) (l2 : Int32) (l3 : Int32) (μ : km_S), I μ → vX12_inCell l1 l2 l3 μ Q := by
  intro l1 l2 l3 μ i
  unfold vX12_inCell
  intro μ1 e1
  have iμ1 : I μ1 := by rw [e1]; exact ((W _ i) 1 (by decide)).1 _
  refine jfX12_isCell (I := I) (gw_sub W (by decide)) ?_ _ _ _ iμ1
  intro r3 μ2 iμ2
  refine ⟨?_, ?_⟩
  · intro e2
    refine ⟨?_, ?_⟩
    · intro e3
      exact hQ _ _ iμ2
    · intro e4
      refine jfX12_at0 (I := I) (gw_sub W (by decide)) ?_ _ _ _ iμ2
      intro r7 μ6 iμ6
      intro e5
      refine ⟨?_, ?_⟩
      · intro e6
        refine jfX12_at0 (I := I) (gw_sub W (by decide)) ?_ _ _ _ iμ6
        intro r11 μ10 iμ10
        intro e7
        exact hQ _ _ iμ10
      · intro e8
        exact hQ _ _ iμ6
  · intro e9
    refine jfX12_fail (I := I) (gw_sub W (by decide)) ?_ _ iμ2
    intro r14 μ13 iμ13
    exact hQ _ _ iμ13
def vX12_heap (l1 : Int32) (l2 : Int32) (μ : km_S) (Q : Int32 → km_S → Prop) : Prop := ∀ μ1, μ1 = km_si μ 1 0 → vX12_isReach l1 μ1 (fun r3 μ2 => ((¬ r3 = 0 → vp_in l1 10 → ((¬ (km_a μ2 22 l1.toNatClampNeg) = 0 → ((¬ l2 = (-1) → ((l2 < 0 → Q (-1) μ2) ∧ (¬ (l2 < 0) → vp_in l1 10 → ((l2 < (km_a μ2 29 l1.toNatClampNeg) → vp_in ((100 * l1) + l2) 1000 → Q (km_a μ2 30 ((100 * l1) + l2).toNatClampNeg) μ2) ∧ (¬ (l2 < (km_a μ2 29 l1.toNatClampNeg)) → Q (-1) μ2))))) ∧ (l2 = (-1) → vp_in l1 10 → Q (km_a μ2 29 l1.toNatClampNeg) μ2))) ∧ ((km_a μ2 22 l1.toNatClampNeg) = 0 → Q (-1) μ2))) ∧ (r3 = 0 → vX12_fail μ2 (fun r14 μ13 => Q r14 μ13))))
set_option maxRecDepth 100000 in
set_option maxHeartbeats 4000000 in
theorem jcX12_heap {Q Q' Q'' : Int32 → km_S → Prop} (hQ : ∀ y0 y1, Q y0 y1 → Q' y0 y1 → Q'' y0 y1) : ∀ (l1 : Int32) (l2 : Int32) (μ : km_S), wX12_heap l1 l2 μ Q → vX12_heap l1 l2 μ Q' → wX12_heap l1 l2 μ Q'' := by
  intro l1 l2 μ h v
  unfold wX12_heap at h
  unfold vX12_heap at v
  unfold wX12_heap
  intro μ1 e1
  have h := h μ1 e1
  have v := v μ1 e1
  refine jcX12_isReach ?_ _ _ h v
  intro r3 μ2 h v
  refine ⟨?_, ?_⟩
  · have h := h.1
    have v := v.1
    intro e2
    have h := h e2
    have v := v e2
    refine ⟨h.1, ?_⟩
    have v := v h.1
    have h := h.2
    refine ⟨?_, ?_⟩
    · have h := h.1
      have v := v.1
      intro e4
      have h := h e4
      have v := v e4
      refine ⟨?_, ?_⟩
      · have h := h.1
        have v := v.1
        intro e5
        have h := h e5
        have v := v e5
        refine ⟨?_, ?_⟩
        · have h := h.1
          have v := v.1
          intro e6
          have h := h e6
          have v := v e6
          exact hQ _ _ h v
        · have h := h.2
          have v := v.2
          intro e7
          have h := h e7
          have v := v e7
          refine ⟨h.1, ?_⟩
          have v := v h.1
          have h := h.2
          refine ⟨?_, ?_⟩
          · have h := h.1
            have v := v.1
            intro e9
            have h := h e9
            have v := v e9
            refine ⟨h.1, ?_⟩
            have v := v h.1
            have h := h.2
            exact hQ _ _ h v
          · have h := h.2
            have v := v.2
            intro e11
            have h := h e11
            have v := v e11
            exact hQ _ _ h v
      · have h := h.2
        have v := v.2
        intro e12
        have h := h e12
        have v := v e12
        refine ⟨h.1, ?_⟩
        have v := v h.1
        have h := h.2
        exact hQ _ _ h v
    · have h := h.2
      have v := v.2
      intro e14
      have h := h e14
      have v := v e14
      exact hQ _ _ h v
  · have h := h.2
    have v := v.2
    intro e15
    have h := h e15
    have v := v e15
    refine jcX12_fail ?_ _ h v
    intro r14 μ13 h v
    exact hQ _ _ h v
set_option maxRecDepth 100000 in
set_option maxHeartbeats 4000000 in
theorem jaX12_heap {Q Q' : Int32 → km_S → Prop} (hQ : ∀ y0 y1, Q y0 y1 → Q' y0 y1) : ∀ (l1 : Int32) (l2 : Int32) (μ : km_S), wX12_heap l1 l2 μ Q → vX12_heap l1 l2 μ Q' := by
  intro l1 l2 μ h
  unfold wX12_heap at h
  unfold vX12_heap
  intro μ1 e1
  have h := h μ1 e1
  refine jaX12_isReach ?_ _ _ h
  intro r3 μ2 h
  refine ⟨?_, ?_⟩
  · have h := h.1
    intro e2
    have h := h e2
    intro e3
    have h := h.2
    refine ⟨?_, ?_⟩
    · have h := h.1
      intro e4
      have h := h e4
      refine ⟨?_, ?_⟩
      · have h := h.1
        intro e5
        have h := h e5
        refine ⟨?_, ?_⟩
        · have h := h.1
          intro e6
          have h := h e6
          exact hQ _ _ h
        · have h := h.2
          intro e7
          have h := h e7
          intro e8
          have h := h.2
          refine ⟨?_, ?_⟩
          · have h := h.1
            intro e9
            have h := h e9
            intro e10
            have h := h.2
            exact hQ _ _ h
          · have h := h.2
            intro e11
            have h := h e11
            exact hQ _ _ h
      · have h := h.2
        intro e12
        have h := h e12
        intro e13
        have h := h.2
        exact hQ _ _ h
    · have h := h.2
      intro e14
      have h := h e14
      exact hQ _ _ h
  · have h := h.2
    intro e15
    have h := h e15
    refine jaX12_fail ?_ _ h
    intro r14 μ13 h
    exact hQ _ _ h
set_option maxRecDepth 100000 in
set_option maxHeartbeats 4000000 in
theorem jfX12_heap {I : km_S → Prop} (W : gw_ I [1]) {Q : Int32 → km_S → Prop} (hQ : ∀ y0 y1, I y1 → Q y0 y1) : ∀ (l1 : Int32) (l2 : Int32) (μ : km_S), I μ → vX12_heap l1 l2 μ Q := by
  intro l1 l2 μ i
  unfold vX12_heap
  intro μ1 e1
  have iμ1 : I μ1 := by rw [e1]; exact ((W _ i) 1 (by decide)).1 _
  refine jfX12_isReach (I := I) (gw_sub W (by decide)) ?_ _ _ iμ1
  intro r3 μ2 iμ2
  refine ⟨?_, ?_⟩
  · intro e2
    intro e3
    refine ⟨?_, ?_⟩
    · intro e4
      refine ⟨?_, ?_⟩
      · intro e5
        refine ⟨?_, ?_⟩
        · intro e6
          exact hQ _ _ iμ2
        · intro e7
          intro e8
          refine ⟨?_, ?_⟩
          · intro e9
            intro e10
            exact hQ _ _ iμ2
          · intro e11
            exact hQ _ _ iμ2
      · intro e12
        intro e13
        exact hQ _ _ iμ2
    · intro e14
      exact hQ _ _ iμ2
  · intro e15
    refine jfX12_fail (I := I) (gw_sub W (by decide)) ?_ _ iμ2
    intro r14 μ13 iμ13
    exact hQ _ _ iμ13
def vX12_water (l1 : Int32) (l2 : Int32) (μ : km_S) (Q : Int32 → km_S → Prop) : Prop := ∀ μ1, μ1 = km_si μ 1 0 → vX12_isReach l1 μ1 (fun r3 μ2 => ((¬ r3 = 0 → ∀ v5, v5 = l2 → ((v5 = 0 → vp_in l1 10 → Q (km_a μ2 18 l1.toNatClampNeg) μ2) ∧ ((v5 = 1 → vp_in l1 10 → Q (km_a μ2 19 l1.toNatClampNeg) μ2) ∧ ((v5 = 2 → vp_in l1 10 → (((km_a μ2 21 l1.toNatClampNeg) = 0 → Q (-1) μ2) ∧ (¬ ((km_a μ2 21 l1.toNatClampNeg) = 0) → vp_in l1 10 → Q (km_a μ2 25 l1.toNatClampNeg) μ2))) ∧ ((v5 = 3 → vp_in l1 10 → Q (km_a μ2 13 l1.toNatClampNeg) μ2) ∧ ((v5 = 4 → vp_in l1 10 → Q (km_a μ2 14 l1.toNatClampNeg) μ2) ∧ (¬ v5 = 0 → ¬ v5 = 1 → ¬ v5 = 2 → ¬ v5 = 3 → ¬ v5 = 4 → vX12_fail μ2 (fun r19 μ18 => Q r19 μ18)))))))) ∧ (r3 = 0 → vX12_fail μ2 (fun r21 μ20 => Q r21 μ20))))
set_option maxRecDepth 100000 in
set_option maxHeartbeats 4000000 in
theorem jcX12_water {Q Q' Q'' : Int32 → km_S → Prop} (hQ : ∀ y0 y1, Q y0 y1 → Q' y0 y1 → Q'' y0 y1) : ∀ (l1 : Int32) (l2 : Int32) (μ : km_S), wX12_water l1 l2 μ Q → vX12_water l1 l2 μ Q' → wX12_water l1 l2 μ Q'' := by
  intro l1 l2 μ h v
  unfold wX12_water at h
  unfold vX12_water at v
  unfold wX12_water
  intro μ1 e1
  have h := h μ1 e1
  have v := v μ1 e1
  refine jcX12_isReach ?_ _ _ h v
  intro r3 μ2 h v
  refine ⟨?_, ?_⟩
  · have h := h.1
    have v := v.1
    intro e2
    have h := h e2
    have v := v e2
    intro v5 e3
    have h := h v5 e3
    have v := v v5 e3
    refine ⟨?_, ?_⟩
    · have h := h.1
      have v := v.1
      intro e4
      have h := h e4
      have v := v e4
      refine ⟨h.1, ?_⟩
      have v := v h.1
      have h := h.2
      exact hQ _ _ h v
    · have h := h.2
      have v := v.2
      refine ⟨?_, ?_⟩
      · have h := h.1
        have v := v.1
        intro e6
        have h := h e6
        have v := v e6
        refine ⟨h.1, ?_⟩
        have v := v h.1
        have h := h.2
        exact hQ _ _ h v
      · have h := h.2
        have v := v.2
        refine ⟨?_, ?_⟩
        · have h := h.1
          have v := v.1
          intro e8
          have h := h e8
          have v := v e8
          refine ⟨h.1, ?_⟩
          have v := v h.1
          have h := h.2
          refine ⟨?_, ?_⟩
          · have h := h.1
            have v := v.1
            intro e10
            have h := h e10
            have v := v e10
            exact hQ _ _ h v
          · have h := h.2
            have v := v.2
            intro e11
            have h := h e11
            have v := v e11
            refine ⟨h.1, ?_⟩
            have v := v h.1
            have h := h.2
            exact hQ _ _ h v
        · have h := h.2
          have v := v.2
          refine ⟨?_, ?_⟩
          · have h := h.1
            have v := v.1
            intro e13
            have h := h e13
            have v := v e13
            refine ⟨h.1, ?_⟩
            have v := v h.1
            have h := h.2
            exact hQ _ _ h v
          · have h := h.2
            have v := v.2
            refine ⟨?_, ?_⟩
            · have h := h.1
              have v := v.1
              intro e15
              have h := h e15
              have v := v e15
              refine ⟨h.1, ?_⟩
              have v := v h.1
              have h := h.2
              exact hQ _ _ h v
            · have h := h.2
              have v := v.2
              intro e17 e18 e19 e20 e21
              have h := h e17 e18 e19 e20 e21
              have v := v e17 e18 e19 e20 e21
              refine jcX12_fail ?_ _ h v
              intro r19 μ18 h v
              exact hQ _ _ h v
  · have h := h.2
    have v := v.2
    intro e22
    have h := h e22
    have v := v e22
    refine jcX12_fail ?_ _ h v
    intro r21 μ20 h v
    exact hQ _ _ h v
set_option maxRecDepth 100000 in
set_option maxHeartbeats 4000000 in
theorem jaX12_water {Q Q' : Int32 → km_S → Prop} (hQ : ∀ y0 y1, Q y0 y1 → Q' y0 y1) : ∀ (l1 : Int32) (l2 : Int32) (μ : km_S), wX12_water l1 l2 μ Q → vX12_water l1 l2 μ Q' := by
  intro l1 l2 μ h
  unfold wX12_water at h
  unfold vX12_water
  intro μ1 e1
  have h := h μ1 e1
  refine jaX12_isReach ?_ _ _ h
  intro r3 μ2 h
  refine ⟨?_, ?_⟩
  · have h := h.1
    intro e2
    have h := h e2
    intro v5 e3
    have h := h v5 e3
    refine ⟨?_, ?_⟩
    · have h := h.1
      intro e4
      have h := h e4
      intro e5
      have h := h.2
      exact hQ _ _ h
    · have h := h.2
      refine ⟨?_, ?_⟩
      · have h := h.1
        intro e6
        have h := h e6
        intro e7
        have h := h.2
        exact hQ _ _ h
      · have h := h.2
        refine ⟨?_, ?_⟩
        · have h := h.1
          intro e8
          have h := h e8
          intro e9
          have h := h.2
          refine ⟨?_, ?_⟩
          · have h := h.1
            intro e10
            have h := h e10
            exact hQ _ _ h
          · have h := h.2
            intro e11
            have h := h e11
            intro e12
            have h := h.2
            exact hQ _ _ h
        · have h := h.2
          refine ⟨?_, ?_⟩
          · have h := h.1
            intro e13
            have h := h e13
            intro e14
            have h := h.2
            exact hQ _ _ h
          · have h := h.2
            refine ⟨?_, ?_⟩
            · have h := h.1
              intro e15
              have h := h e15
              intro e16
              have h := h.2
              exact hQ _ _ h
            · have h := h.2
              intro e17 e18 e19 e20 e21
              have h := h e17 e18 e19 e20 e21
              refine jaX12_fail ?_ _ h
              intro r19 μ18 h
              exact hQ _ _ h
  · have h := h.2
    intro e22
    have h := h e22
    refine jaX12_fail ?_ _ h
    intro r21 μ20 h
    exact hQ _ _ h
set_option maxRecDepth 100000 in
set_option maxHeartbeats 4000000 in
theorem jfX12_water {I : km_S → Prop} (W : gw_ I [1]) {Q : Int32 → km_S → Prop} (hQ : ∀ y0 y1, I y1 → Q y0 y1) : ∀ (l1 : Int32) (l2 : Int32) (μ : km_S), I μ → vX12_water l1 l2 μ Q := by
  intro l1 l2 μ i
  unfold vX12_water
  intro μ1 e1
  have iμ1 : I μ1 := by rw [e1]; exact ((W _ i) 1 (by decide)).1 _
  refine jfX12_isReach (I := I) (gw_sub W (by decide)) ?_ _ _ iμ1
  intro r3 μ2 iμ2
  refine ⟨?_, ?_⟩
  · intro e2
    intro v5 e3
    refine ⟨?_, ?_⟩
    · intro e4
      intro e5
      exact hQ _ _ iμ2
    · refine ⟨?_, ?_⟩
      · intro e6
        intro e7
        exact hQ _ _ iμ2
      · refine ⟨?_, ?_⟩
        · intro e8
          intro e9
          refine ⟨?_, ?_⟩
          · intro e10
            exact hQ _ _ iμ2
          · intro e11
            intro e12
            exact hQ _ _ iμ2
        · refine ⟨?_, ?_⟩
          · intro e13
            intro e14
            exact hQ _ _ iμ2
          · refine ⟨?_, ?_⟩
            · intro e15
              intro e16
              exact hQ _ _ iμ2
            · intro e17 e18 e19 e20 e21
              refine jfX12_fail (I := I) (gw_sub W (by decide)) ?_ _ iμ2
              intro r19 μ18 iμ18
              exact hQ _ _ iμ18
  · intro e22
    refine jfX12_fail (I := I) (gw_sub W (by decide)) ?_ _ iμ2
    intro r21 μ20 iμ20
    exact hQ _ _ iμ20
def vX12_waters (l1 : Int32) (μ : km_S) (Q : Int64 → km_S → Prop) : Prop := ∀ μ1, μ1 = km_si μ 1 0 → ((¬ l1 = 0 → ((¬ l1 = 1 → vX12_fail μ1 (fun r5 μ4 => Q r5.toInt64 μ4)) ∧ (l1 = 1 → Q (km_l μ1 12) μ1))) ∧ (l1 = 0 → Q (km_l μ1 11) μ1))
set_option maxRecDepth 100000 in
set_option maxHeartbeats 4000000 in
theorem jcX12_waters {Q Q' Q'' : Int64 → km_S → Prop} (hQ : ∀ y0 y1, Q y0 y1 → Q' y0 y1 → Q'' y0 y1) : ∀ (l1 : Int32) (μ : km_S), wX12_waters l1 μ Q → vX12_waters l1 μ Q' → wX12_waters l1 μ Q'' := by
  intro l1 μ h v
  unfold wX12_waters at h
  unfold vX12_waters at v
  unfold wX12_waters
  intro μ1 e1
  have h := h μ1 e1
  have v := v μ1 e1
  refine ⟨?_, ?_⟩
  · have h := h.1
    have v := v.1
    intro e2
    have h := h e2
    have v := v e2
    refine ⟨?_, ?_⟩
    · have h := h.1
      have v := v.1
      intro e3
      have h := h e3
      have v := v e3
      refine jcX12_fail ?_ _ h v
      intro r5 μ4 h v
      exact hQ _ _ h v
    · have h := h.2
      have v := v.2
      intro e4
      have h := h e4
      have v := v e4
      exact hQ _ _ h v
  · have h := h.2
    have v := v.2
    intro e5
    have h := h e5
    have v := v e5
    exact hQ _ _ h v
set_option maxRecDepth 100000 in
set_option maxHeartbeats 4000000 in
theorem jaX12_waters {Q Q' : Int64 → km_S → Prop} (hQ : ∀ y0 y1, Q y0 y1 → Q' y0 y1) : ∀ (l1 : Int32) (μ : km_S), wX12_waters l1 μ Q → vX12_waters l1 μ Q' := by
  intro l1 μ h
  unfold wX12_waters at h
  unfold vX12_waters
  intro μ1 e1
  have h := h μ1 e1
  refine ⟨?_, ?_⟩
  · have h := h.1
    intro e2
    have h := h e2
    refine ⟨?_, ?_⟩
    · have h := h.1
      intro e3
      have h := h e3
      refine jaX12_fail ?_ _ h
      intro r5 μ4 h
      exact hQ _ _ h
    · have h := h.2
      intro e4
      have h := h e4
      exact hQ _ _ h
  · have h := h.2
    intro e5
    have h := h e5
    exact hQ _ _ h
set_option maxRecDepth 100000 in
set_option maxHeartbeats 4000000 in
theorem jfX12_waters {I : km_S → Prop} (W : gw_ I [1]) {Q : Int64 → km_S → Prop} (hQ : ∀ y0 y1, I y1 → Q y0 y1) : ∀ (l1 : Int32) (μ : km_S), I μ → vX12_waters l1 μ Q := by
  intro l1 μ i
  unfold vX12_waters
  intro μ1 e1
  have iμ1 : I μ1 := by rw [e1]; exact ((W _ i) 1 (by decide)).1 _
  refine ⟨?_, ?_⟩
  · intro e2
    refine ⟨?_, ?_⟩
    · intro e3
      refine jfX12_fail (I := I) (gw_sub W (by decide)) ?_ _ iμ1
      intro r5 μ4 iμ4
      exact hQ _ _ iμ4
    · intro e4
      exact hQ _ _ iμ1
  · intro e5
    exact hQ _ _ iμ1
def vX12_board_17 (Q : Int32 → km_S → Prop) (μ : km_S) : Prop := vX12_fail μ (fun r2 μ1 => Q r2 μ1)
set_option maxRecDepth 100000 in
set_option maxHeartbeats 4000000 in
theorem jcX12_board_17 {Q Q' Q'' : Int32 → km_S → Prop} (hQ : ∀ y0 y1, Q y0 y1 → Q' y0 y1 → Q'' y0 y1) : ∀ (μ : km_S), wX12_board_17 Q μ → vX12_board_17 Q' μ → wX12_board_17 Q'' μ := by
  intro μ h v
  unfold wX12_board_17 at h
  unfold vX12_board_17 at v
  unfold wX12_board_17
  refine jcX12_fail ?_ _ h v
  intro r2 μ1 h v
  exact hQ _ _ h v
set_option maxRecDepth 100000 in
set_option maxHeartbeats 4000000 in
theorem jaX12_board_17 {Q Q' : Int32 → km_S → Prop} (hQ : ∀ y0 y1, Q y0 y1 → Q' y0 y1) : ∀ (μ : km_S), wX12_board_17 Q μ → vX12_board_17 Q' μ := by
  intro μ h
  unfold wX12_board_17 at h
  unfold vX12_board_17
  refine jaX12_fail ?_ _ h
  intro r2 μ1 h
  exact hQ _ _ h
set_option maxRecDepth 100000 in
set_option maxHeartbeats 4000000 in
theorem jfX12_board_17 {I : km_S → Prop} (W : gw_ I [1]) {Q : Int32 → km_S → Prop} (hQ : ∀ y0 y1, I y1 → Q y0 y1) : ∀ (μ : km_S), I μ → vX12_board_17 Q μ := by
  intro μ i
  unfold vX12_board_17
  refine jfX12_fail (I := I) (gw_sub W (by decide)) ?_ _ i
  intro r2 μ1 iμ1
  exact hQ _ _ iμ1
def vX12_board (l1 : Int32) (μ : km_S) (Q : Int32 → km_S → Prop) : Prop := ∀ μ3, μ3 = km_si μ 1 0 → ((l1 < 0 → vX12_board_17 Q μ3) ∧ (¬ (l1 < 0) → ((l1 < (km_i μ3 6) → vp_in l1 3600 → Q (km_a μ3 43 l1.toNatClampNeg) μ3) ∧ (¬ (l1 < (km_i μ3 6)) → vX12_board_17 Q μ3))))
set_option maxRecDepth 100000 in
set_option maxHeartbeats 4000000 in
theorem jcX12_board {Q Q' Q'' : Int32 → km_S → Prop} (hQ : ∀ y0 y1, Q y0 y1 → Q' y0 y1 → Q'' y0 y1) : ∀ (l1 : Int32) (μ : km_S), wX12_board l1 μ Q → vX12_board l1 μ Q' → wX12_board l1 μ Q'' := by
  intro l1 μ h v
  unfold wX12_board at h
  unfold vX12_board at v
  unfold wX12_board
  intro μ3 e1
  have h := h μ3 e1
  have v := v μ3 e1
  refine ⟨?_, ?_⟩
  · have h := h.1
    have v := v.1
    intro e2
    have h := h e2
    have v := v e2
    exact jcX12_board_17 hQ _ h v
  · have h := h.2
    have v := v.2
    intro e3
    have h := h e3
    have v := v e3
    refine ⟨?_, ?_⟩
    · have h := h.1
      have v := v.1
      intro e4
      have h := h e4
      have v := v e4
      refine ⟨h.1, ?_⟩
      have v := v h.1
      have h := h.2
      exact hQ _ _ h v
    · have h := h.2
      have v := v.2
      intro e6
      have h := h e6
      have v := v e6
      exact jcX12_board_17 hQ _ h v
set_option maxRecDepth 100000 in
set_option maxHeartbeats 4000000 in
theorem jaX12_board {Q Q' : Int32 → km_S → Prop} (hQ : ∀ y0 y1, Q y0 y1 → Q' y0 y1) : ∀ (l1 : Int32) (μ : km_S), wX12_board l1 μ Q → vX12_board l1 μ Q' := by
  intro l1 μ h
  unfold wX12_board at h
  unfold vX12_board
  intro μ3 e1
  have h := h μ3 e1
  refine ⟨?_, ?_⟩
  · have h := h.1
    intro e2
    have h := h e2
    exact jaX12_board_17 hQ _ h
  · have h := h.2
    intro e3
    have h := h e3
    refine ⟨?_, ?_⟩
    · have h := h.1
      intro e4
      have h := h e4
      intro e5
      have h := h.2
      exact hQ _ _ h
    · have h := h.2
      intro e6
      have h := h e6
      exact jaX12_board_17 hQ _ h
set_option maxRecDepth 100000 in
set_option maxHeartbeats 4000000 in
theorem jfX12_board {I : km_S → Prop} (W : gw_ I [1]) {Q : Int32 → km_S → Prop} (hQ : ∀ y0 y1, I y1 → Q y0 y1) : ∀ (l1 : Int32) (μ : km_S), I μ → vX12_board l1 μ Q := by
  intro l1 μ i
  unfold vX12_board
  intro μ3 e1
  have iμ3 : I μ3 := by rw [e1]; exact ((W _ i) 1 (by decide)).1 _
  refine ⟨?_, ?_⟩
  · intro e2
    exact jfX12_board_17 (I := I) (gw_sub W (by decide)) hQ _ iμ3
  · intro e3
    refine ⟨?_, ?_⟩
    · intro e4
      intro e5
      exact hQ _ _ iμ3
    · intro e6
      exact jfX12_board_17 (I := I) (gw_sub W (by decide)) hQ _ iμ3
def vX12_paid_15 (Q : Int64 → km_S → Prop) (μ : km_S) : Prop := vX12_fail μ (fun r2 μ1 => Q r2.toInt64 μ1)
set_option maxRecDepth 100000 in
set_option maxHeartbeats 4000000 in
theorem jcX12_paid_15 {Q Q' Q'' : Int64 → km_S → Prop} (hQ : ∀ y0 y1, Q y0 y1 → Q' y0 y1 → Q'' y0 y1) : ∀ (μ : km_S), wX12_paid_15 Q μ → vX12_paid_15 Q' μ → wX12_paid_15 Q'' μ := by
  intro μ h v
  unfold wX12_paid_15 at h
  unfold vX12_paid_15 at v
  unfold wX12_paid_15
  refine jcX12_fail ?_ _ h v
  intro r2 μ1 h v
  exact hQ _ _ h v
set_option maxRecDepth 100000 in
set_option maxHeartbeats 4000000 in
theorem jaX12_paid_15 {Q Q' : Int64 → km_S → Prop} (hQ : ∀ y0 y1, Q y0 y1 → Q' y0 y1) : ∀ (μ : km_S), wX12_paid_15 Q μ → vX12_paid_15 Q' μ := by
  intro μ h
  unfold wX12_paid_15 at h
  unfold vX12_paid_15
  refine jaX12_fail ?_ _ h
  intro r2 μ1 h
  exact hQ _ _ h
set_option maxRecDepth 100000 in
set_option maxHeartbeats 4000000 in
theorem jfX12_paid_15 {I : km_S → Prop} (W : gw_ I [1]) {Q : Int64 → km_S → Prop} (hQ : ∀ y0 y1, I y1 → Q y0 y1) : ∀ (μ : km_S), I μ → vX12_paid_15 Q μ := by
  intro μ i
  unfold vX12_paid_15
  refine jfX12_fail (I := I) (gw_sub W (by decide)) ?_ _ i
  intro r2 μ1 iμ1
  exact hQ _ _ iμ1
def vX12_paid (l1 : Int32) (μ : km_S) (Q : Int64 → km_S → Prop) : Prop := ∀ μ3, μ3 = km_si μ 1 0 → ((l1 < 0 → vX12_paid_15 Q μ3) ∧ (¬ (l1 < 0) → ((l1 ≤ 15 → vp_in l1 16 → Q (km_p μ3 l1.toNatClampNeg) μ3) ∧ (¬ (l1 ≤ 15) → vX12_paid_15 Q μ3))))
set_option maxRecDepth 100000 in
set_option maxHeartbeats 4000000 in
theorem jcX12_paid {Q Q' Q'' : Int64 → km_S → Prop} (hQ : ∀ y0 y1, Q y0 y1 → Q' y0 y1 → Q'' y0 y1) : ∀ (l1 : Int32) (μ : km_S), wX12_paid l1 μ Q → vX12_paid l1 μ Q' → wX12_paid l1 μ Q'' := by
  intro l1 μ h v
  unfold wX12_paid at h
  unfold vX12_paid at v
  unfold wX12_paid
  intro μ3 e1
  have h := h μ3 e1
  have v := v μ3 e1
  refine ⟨?_, ?_⟩
  · have h := h.1
    have v := v.1
    intro e2
    have h := h e2
    have v := v e2
    exact jcX12_paid_15 hQ _ h v
  · have h := h.2
    have v := v.2
    intro e3
    have h := h e3
    have v := v e3
    refine ⟨?_, ?_⟩
    · have h := h.1
      have v := v.1
      intro e4
      have h := h e4
      have v := v e4
      refine ⟨h.1, ?_⟩
      have v := v h.1
      have h := h.2
      exact hQ _ _ h v
    · have h := h.2
      have v := v.2
      intro e6
      have h := h e6
      have v := v e6
      exact jcX12_paid_15 hQ _ h v
set_option maxRecDepth 100000 in
set_option maxHeartbeats 4000000 in
theorem jaX12_paid {Q Q' : Int64 → km_S → Prop} (hQ : ∀ y0 y1, Q y0 y1 → Q' y0 y1) : ∀ (l1 : Int32) (μ : km_S), wX12_paid l1 μ Q → vX12_paid l1 μ Q' := by
  intro l1 μ h
  unfold wX12_paid at h
  unfold vX12_paid
  intro μ3 e1
  have h := h μ3 e1
  refine ⟨?_, ?_⟩
  · have h := h.1
    intro e2
    have h := h e2
    exact jaX12_paid_15 hQ _ h
  · have h := h.2
    intro e3
    have h := h e3
    refine ⟨?_, ?_⟩
    · have h := h.1
      intro e4
      have h := h e4
      intro e5
      have h := h.2
      exact hQ _ _ h
    · have h := h.2
      intro e6
      have h := h e6
      exact jaX12_paid_15 hQ _ h
set_option maxRecDepth 100000 in
set_option maxHeartbeats 4000000 in
theorem jfX12_paid {I : km_S → Prop} (W : gw_ I [1]) {Q : Int64 → km_S → Prop} (hQ : ∀ y0 y1, I y1 → Q y0 y1) : ∀ (l1 : Int32) (μ : km_S), I μ → vX12_paid l1 μ Q := by
  intro l1 μ i
  unfold vX12_paid
  intro μ3 e1
  have iμ3 : I μ3 := by rw [e1]; exact ((W _ i) 1 (by decide)).1 _
  refine ⟨?_, ?_⟩
  · intro e2
    exact jfX12_paid_15 (I := I) (gw_sub W (by decide)) hQ _ iμ3
  · intro e3
    refine ⟨?_, ?_⟩
    · intro e4
      intro e5
      exact hQ _ _ iμ3
    · intro e6
      exact jfX12_paid_15 (I := I) (gw_sub W (by decide)) hQ _ iμ3
def vX12_count_53 (k12 : Int32 → Int32 → Int32 → Int32 → km_S → Prop) (Q : Int32 → km_S → Prop) (l1 : Int32) (l2 : Int32) (l4 : Int32) (s0 : Int32) (s1 : Int32) (μ : km_S) : Prop := ∀ v1, v1 = s1 + s0 → ∀ v2 : Int32, v2 = l4 + 1 → k12 l1 l2 v1 v2 μ
set_option maxRecDepth 100000 in
set_option maxHeartbeats 4000000 in
theorem jcX12_count_53 {k12 k12' k12'' : Int32 → Int32 → Int32 → Int32 → km_S → Prop} (hk12 : ∀ y0 y1 y2 y3 y4, k12 y0 y1 y2 y3 y4 → k12' y0 y1 y2 y3 y4 → k12'' y0 y1 y2 y3 y4) {Q Q' Q'' : Int32 → km_S → Prop} (hQ : ∀ y0 y1, Q y0 y1 → Q' y0 y1 → Q'' y0 y1) : ∀ (l1 : Int32) (l2 : Int32) (l4 : Int32) (s0 : Int32) (s1 : Int32) (μ : km_S), wX12_count_53 k12 Q l1 l2 l4 s0 s1 μ → vX12_count_53 k12' Q' l1 l2 l4 s0 s1 μ → wX12_count_53 k12'' Q'' l1 l2 l4 s0 s1 μ := by
  intro l1 l2 l4 s0 s1 μ h v
  unfold wX12_count_53 at h
  unfold vX12_count_53 at v
  unfold wX12_count_53
  intro v1 e1
  have h := h v1 e1
  have v := v v1 e1
  intro v2 e2
  have h := h v2 e2
  have v := v v2 e2
  exact hk12 _ _ _ _ _ h v
set_option maxRecDepth 100000 in
set_option maxHeartbeats 4000000 in
theorem jaX12_count_53 {k12 k12' : Int32 → Int32 → Int32 → Int32 → km_S → Prop} (hk12 : ∀ y0 y1 y2 y3 y4, k12 y0 y1 y2 y3 y4 → k12' y0 y1 y2 y3 y4) {Q Q' : Int32 → km_S → Prop} (hQ : ∀ y0 y1, Q y0 y1 → Q' y0 y1) : ∀ (l1 : Int32) (l2 : Int32) (l4 : Int32) (s0 : Int32) (s1 : Int32) (μ : km_S), wX12_count_53 k12 Q l1 l2 l4 s0 s1 μ → vX12_count_53 k12' Q' l1 l2 l4 s0 s1 μ := by
  intro l1 l2 l4 s0 s1 μ h
  unfold wX12_count_53 at h
  unfold vX12_count_53
  intro v1 e1
  have h := h v1 e1
  intro v2 e2
  have h := h v2 e2
  exact hk12 _ _ _ _ _ h
set_option maxRecDepth 100000 in
set_option maxHeartbeats 4000000 in
theorem jfX12_count_53 {I : km_S → Prop} (W : gw_ I []) {k12 : Int32 → Int32 → Int32 → Int32 → km_S → Prop} (hk12 : ∀ y0 y1 y2 y3 y4, I y4 → k12 y0 y1 y2 y3 y4) {Q : Int32 → km_S → Prop} (hQ : ∀ y0 y1, I y1 → Q y0 y1) : ∀ (l1 : Int32) (l2 : Int32) (l4 : Int32) (s0 : Int32) (s1 : Int32) (μ : km_S), I μ → vX12_count_53 k12 Q l1 l2 l4 s0 s1 μ := by
  intro l1 l2 l4 s0 s1 μ i
  unfold vX12_count_53
  intro v1 e1
  intro v2 e2
  exact hk12 _ _ _ _ _ i
def vX12_count_35 (k12 : Int32 → Int32 → Int32 → Int32 → km_S → Prop) (Q : Int32 → km_S → Prop) (l1 : Int32) (l3 : Int32) (l4 : Int32) (s0 : Int32) (s1 : Int32) (μ : km_S) : Prop := ∀ v3, v3 = s1 + s0 → vp_in l4 120 → (((km_a μ 34 l4.toNatClampNeg) = 0 → vX12_count_53 k12 Q l1 v3 l4 0 l3 μ) ∧ (¬ ((km_a μ 34 l4.toNatClampNeg) = 0) → vX12_count_53 k12 Q l1 v3 l4 1 l3 μ))
set_option maxRecDepth 100000 in
set_option maxHeartbeats 4000000 in
theorem jcX12_count_35 {k12 k12' k12'' : Int32 → Int32 → Int32 → Int32 → km_S → Prop} (hk12 : ∀ y0 y1 y2 y3 y4, k12 y0 y1 y2 y3 y4 → k12' y0 y1 y2 y3 y4 → k12'' y0 y1 y2 y3 y4) {Q Q' Q'' : Int32 → km_S → Prop} (hQ : ∀ y0 y1, Q y0 y1 → Q' y0 y1 → Q'' y0 y1) : ∀ (l1 : Int32) (l3 : Int32) (l4 : Int32) (s0 : Int32) (s1 : Int32) (μ : km_S), wX12_count_35 k12 Q l1 l3 l4 s0 s1 μ → vX12_count_35 k12' Q' l1 l3 l4 s0 s1 μ → wX12_count_35 k12'' Q'' l1 l3 l4 s0 s1 μ := by
  intro l1 l3 l4 s0 s1 μ h v
  unfold wX12_count_35 at h
  unfold vX12_count_35 at v
  unfold wX12_count_35
  intro v3 e1
  have h := h v3 e1
  have v := v v3 e1
  refine ⟨h.1, ?_⟩
  have v := v h.1
  have h := h.2
  refine ⟨?_, ?_⟩
  · have h := h.1
    have v := v.1
    intro e3
    have h := h e3
    have v := v e3
    exact jcX12_count_53 hk12 hQ _ _ _ _ _ _ h v
  · have h := h.2
    have v := v.2
    intro e4
    have h := h e4
    have v := v e4
    exact jcX12_count_53 hk12 hQ _ _ _ _ _ _ h v
set_option maxRecDepth 100000 in
set_option maxHeartbeats 4000000 in
theorem jaX12_count_35 {k12 k12' : Int32 → Int32 → Int32 → Int32 → km_S → Prop} (hk12 : ∀ y0 y1 y2 y3 y4, k12 y0 y1 y2 y3 y4 → k12' y0 y1 y2 y3 y4) {Q Q' : Int32 → km_S → Prop} (hQ : ∀ y0 y1, Q y0 y1 → Q' y0 y1) : ∀ (l1 : Int32) (l3 : Int32) (l4 : Int32) (s0 : Int32) (s1 : Int32) (μ : km_S), wX12_count_35 k12 Q l1 l3 l4 s0 s1 μ → vX12_count_35 k12' Q' l1 l3 l4 s0 s1 μ := by
  intro l1 l3 l4 s0 s1 μ h
  unfold wX12_count_35 at h
  unfold vX12_count_35
  intro v3 e1
  have h := h v3 e1
  intro e2
  have h := h.2
  refine ⟨?_, ?_⟩
  · have h := h.1
    intro e3
    have h := h e3
    exact jaX12_count_53 hk12 hQ _ _ _ _ _ _ h
  · have h := h.2
    intro e4
    have h := h e4
    exact jaX12_count_53 hk12 hQ _ _ _ _ _ _ h
set_option maxRecDepth 100000 in
set_option maxHeartbeats 4000000 in
theorem jfX12_count_35 {I : km_S → Prop} (W : gw_ I []) {k12 : Int32 → Int32 → Int32 → Int32 → km_S → Prop} (hk12 : ∀ y0 y1 y2 y3 y4, I y4 → k12 y0 y1 y2 y3 y4) {Q : Int32 → km_S → Prop} (hQ : ∀ y0 y1, I y1 → Q y0 y1) : ∀ (l1 : Int32) (l3 : Int32) (l4 : Int32) (s0 : Int32) (s1 : Int32) (μ : km_S), I μ → vX12_count_35 k12 Q l1 l3 l4 s0 s1 μ := by
  intro l1 l3 l4 s0 s1 μ i
  unfold vX12_count_35
  intro v3 e1
  intro e2
  refine ⟨?_, ?_⟩
  · intro e3
    exact jfX12_count_53 (I := I) (gw_sub W (by decide)) hk12 hQ _ _ _ _ _ _ i
  · intro e4
    exact jfX12_count_53 (I := I) (gw_sub W (by decide)) hk12 hQ _ _ _ _ _ _ i
end
section
def vX12_count_12 (k61 : Int32 → Int32 → Int32 → km_S → Prop) (Q : Int32 → km_S → Prop) : Nat → Int32 → Int32 → Int32 → Int32 → km_S → Prop
  | 0, _, _, _, _, _ => True
  | n + 1, l1, l2, l3, l4, μ => ((120 ≤ l4 → k61 l1 l2 l3 μ) ∧ (¬ (120 ≤ l4) → vp_in l4 120 → (((km_a μ 33 l4.toNatClampNeg) = 0 → vX12_count_35 (vX12_count_12 k61 Q n) Q l1 l3 l4 0 l2 μ) ∧ (¬ ((km_a μ 33 l4.toNatClampNeg) = 0) → vX12_count_35 (vX12_count_12 k61 Q n) Q l1 l3 l4 1 l2 μ))))
set_option maxRecDepth 100000 in
set_option maxHeartbeats 4000000 in
theorem jcX12_count_12 {k61 k61' k61'' : Int32 → Int32 → Int32 → km_S → Prop} (hk61 : ∀ y0 y1 y2 y3, k61 y0 y1 y2 y3 → k61' y0 y1 y2 y3 → k61'' y0 y1 y2 y3) {Q Q' Q'' : Int32 → km_S → Prop} (hQ : ∀ y0 y1, Q y0 y1 → Q' y0 y1 → Q'' y0 y1) : ∀ (n : Nat) (l1 : Int32) (l2 : Int32) (l3 : Int32) (l4 : Int32) (μ : km_S), wX12_count_12 k61 Q n l1 l2 l3 l4 μ → vX12_count_12 k61' Q' n l1 l2 l3 l4 μ → wX12_count_12 k61'' Q'' n l1 l2 l3 l4 μ := by
  intro n
  induction n with
  | zero => intro l1 l2 l3 l4 μ h; exact h.elim
  | succ n ih =>
    intro l1 l2 l3 l4 μ h v
    unfold wX12_count_12 at h
    unfold vX12_count_12 at v
    unfold wX12_count_12
    refine ⟨?_, ?_⟩
    · have h := h.1
      have v := v.1
      intro e1
      have h := h e1
      have v := v e1
      exact hk61 _ _ _ _ h v
    · have h := h.2
      have v := v.2
      intro e2
      have h := h e2
      have v := v e2
      refine ⟨h.1, ?_⟩
      have v := v h.1
      have h := h.2
      refine ⟨?_, ?_⟩
      · have h := h.1
        have v := v.1
        intro e4
        have h := h e4
        have v := v e4
        exact jcX12_count_35 (k12 := wX12_count_12 k61 Q n) (k12' := vX12_count_12 k61' Q' n) (k12'' := wX12_count_12 k61'' Q'' n) (fun _ _ _ _ _ h v => ih _ _ _ _ _ h v) hQ _ _ _ _ _ _ h v
      · have h := h.2
        have v := v.2
        intro e5
        have h := h e5
        have v := v e5
        exact jcX12_count_35 (k12 := wX12_count_12 k61 Q n) (k12' := vX12_count_12 k61' Q' n) (k12'' := wX12_count_12 k61'' Q'' n) (fun _ _ _ _ _ h v => ih _ _ _ _ _ h v) hQ _ _ _ _ _ _ h v
set_option maxRecDepth 100000 in
set_option maxHeartbeats 4000000 in
theorem jaX12_count_12 {k61 k61' : Int32 → Int32 → Int32 → km_S → Prop} (hk61 : ∀ y0 y1 y2 y3, k61 y0 y1 y2 y3 → k61' y0 y1 y2 y3) {Q Q' : Int32 → km_S → Prop} (hQ : ∀ y0 y1, Q y0 y1 → Q' y0 y1) : ∀ (n m : Nat) (l1 : Int32) (l2 : Int32) (l3 : Int32) (l4 : Int32) (μ : km_S), wX12_count_12 k61 Q n l1 l2 l3 l4 μ → vX12_count_12 k61' Q' m l1 l2 l3 l4 μ := by
  intro n
  induction n with
  | zero => intro m l1 l2 l3 l4 μ h; exact h.elim
  | succ n ih =>
    intro m l1 l2 l3 l4 μ h
    cases m with
    | zero => exact trivial
    | succ m =>
      unfold wX12_count_12 at h
      unfold vX12_count_12
      refine ⟨?_, ?_⟩
      · have h := h.1
        intro e1
        have h := h e1
        exact hk61 _ _ _ _ h
      · have h := h.2
        intro e2
        have h := h e2
        intro e3
        have h := h.2
        refine ⟨?_, ?_⟩
        · have h := h.1
          intro e4
          have h := h e4
          exact jaX12_count_35 (k12 := wX12_count_12 k61 Q n) (k12' := vX12_count_12 k61' Q' m) (fun _ _ _ _ _ h => ih m _ _ _ _ _ h) hQ _ _ _ _ _ _ h
        · have h := h.2
          intro e5
          have h := h e5
          exact jaX12_count_35 (k12 := wX12_count_12 k61 Q n) (k12' := vX12_count_12 k61' Q' m) (fun _ _ _ _ _ h => ih m _ _ _ _ _ h) hQ _ _ _ _ _ _ h
set_option maxRecDepth 100000 in
set_option maxHeartbeats 4000000 in
theorem jfX12_count_12 {I : km_S → Prop} (W : gw_ I []) {k61 : Int32 → Int32 → Int32 → km_S → Prop} (hk61 : ∀ y0 y1 y2 y3, I y3 → k61 y0 y1 y2 y3) {Q : Int32 → km_S → Prop} (hQ : ∀ y0 y1, I y1 → Q y0 y1) : ∀ (n : Nat) (l1 : Int32) (l2 : Int32) (l3 : Int32) (l4 : Int32) (μ : km_S), I μ → vX12_count_12 k61 Q n l1 l2 l3 l4 μ := by
  intro n
  induction n with
  | zero => intro l1 l2 l3 l4 μ i; exact trivial
  | succ n ih =>
    intro l1 l2 l3 l4 μ i
    unfold vX12_count_12
    refine ⟨?_, ?_⟩
    · intro e1
      exact hk61 _ _ _ _ i
    · intro e2
      intro e3
      refine ⟨?_, ?_⟩
      · intro e4
        exact jfX12_count_35 (I := I) (gw_sub W (by decide)) (k12 := vX12_count_12 k61 Q n) (fun _ _ _ _ _ i => ih _ _ _ _ _ i) hQ _ _ _ _ _ _ i
      · intro e5
        exact jfX12_count_35 (I := I) (gw_sub W (by decide)) (k12 := vX12_count_12 k61 Q n) (fun _ _ _ _ _ i => ih _ _ _ _ _ i) hQ _ _ _ _ _ _ i
def vX12_count_61 (Q : Int32 → km_S → Prop) (l1 : Int32) (l2 : Int32) (l3 : Int32) (μ : km_S) : Prop := ∀ v9, v9 = l1 → ((v9 = 0 → Q (km_i μ 2) μ) ∧ ((v9 = 1 → Q (km_i μ 3) μ) ∧ ((v9 = 2 → Q (km_i μ 4) μ) ∧ ((v9 = 3 → Q (km_i μ 5) μ) ∧ ((v9 = 4 → Q (km_i μ 6) μ) ∧ ((v9 = 5 → Q (km_i μ 7) μ) ∧ ((v9 = 6 → Q l2 μ) ∧ ((v9 = 7 → Q l3 μ) ∧ ((v9 = 8 → Q (km_i μ 8) μ) ∧ ((v9 = 9 → Q (km_i μ 9) μ) ∧ (¬ v9 = 0 → ¬ v9 = 1 → ¬ v9 = 2 → ¬ v9 = 3 → ¬ v9 = 4 → ¬ v9 = 5 → ¬ v9 = 6 → ¬ v9 = 7 → ¬ v9 = 8 → ¬ v9 = 9 → vX12_fail μ (fun r21 μ20 => Q r21 μ20))))))))))))
set_option maxRecDepth 100000 in
set_option maxHeartbeats 4000000 in
theorem jcX12_count_61 {Q Q' Q'' : Int32 → km_S → Prop} (hQ : ∀ y0 y1, Q y0 y1 → Q' y0 y1 → Q'' y0 y1) : ∀ (l1 : Int32) (l2 : Int32) (l3 : Int32) (μ : km_S), wX12_count_61 Q l1 l2 l3 μ → vX12_count_61 Q' l1 l2 l3 μ → wX12_count_61 Q'' l1 l2 l3 μ := by
  intro l1 l2 l3 μ h v
  unfold wX12_count_61 at h
  unfold vX12_count_61 at v
  unfold wX12_count_61
  intro v9 e1
  have h := h v9 e1
  have v := v v9 e1
  refine ⟨?_, ?_⟩
  · have h := h.1
    have v := v.1
    intro e2
    have h := h e2
    have v := v e2
    exact hQ _ _ h v
  · have h := h.2
    have v := v.2
    refine ⟨?_, ?_⟩
    · have h := h.1
      have v := v.1
      intro e3
      have h := h e3
      have v := v e3
      exact hQ _ _ h v
    · have h := h.2
      have v := v.2
      refine ⟨?_, ?_⟩
      · have h := h.1
        have v := v.1
        intro e4
        have h := h e4
        have v := v e4
        exact hQ _ _ h v
      · have h := h.2
        have v := v.2
        refine ⟨?_, ?_⟩
        · have h := h.1
          have v := v.1
          intro e5
          have h := h e5
          have v := v e5
          exact hQ _ _ h v
        · have h := h.2
          have v := v.2
          refine ⟨?_, ?_⟩
          · have h := h.1
            have v := v.1
            intro e6
            have h := h e6
            have v := v e6
            exact hQ _ _ h v
          · have h := h.2
            have v := v.2
            refine ⟨?_, ?_⟩
            · have h := h.1
              have v := v.1
              intro e7
              have h := h e7
              have v := v e7
              exact hQ _ _ h v
            · have h := h.2
              have v := v.2
              refine ⟨?_, ?_⟩
              · have h := h.1
                have v := v.1
                intro e8
                have h := h e8
                have v := v e8
                exact hQ _ _ h v
              · have h := h.2
                have v := v.2
                refine ⟨?_, ?_⟩
                · have h := h.1
                  have v := v.1
                  intro e9
                  have h := h e9
                  have v := v e9
                  exact hQ _ _ h v
                · have h := h.2
                  have v := v.2
                  refine ⟨?_, ?_⟩
                  · have h := h.1
                    have v := v.1
                    intro e10
                    have h := h e10
                    have v := v e10
                    exact hQ _ _ h v
                  · have h := h.2
                    have v := v.2
                    refine ⟨?_, ?_⟩
                    · have h := h.1
                      have v := v.1
                      intro e11
                      have h := h e11
                      have v := v e11
                      exact hQ _ _ h v
                    · have h := h.2
                      have v := v.2
                      intro e12 e13 e14 e15 e16 e17 e18 e19 e20 e21
                      have h := h e12 e13 e14 e15 e16 e17 e18 e19 e20 e21
                      have v := v e12 e13 e14 e15 e16 e17 e18 e19 e20 e21
                      refine jcX12_fail ?_ _ h v
                      intro r21 μ20 h v
                      exact hQ _ _ h v
set_option maxRecDepth 100000 in
set_option maxHeartbeats 4000000 in
theorem jaX12_count_61 {Q Q' : Int32 → km_S → Prop} (hQ : ∀ y0 y1, Q y0 y1 → Q' y0 y1) : ∀ (l1 : Int32) (l2 : Int32) (l3 : Int32) (μ : km_S), wX12_count_61 Q l1 l2 l3 μ → vX12_count_61 Q' l1 l2 l3 μ := by
  intro l1 l2 l3 μ h
  unfold wX12_count_61 at h
  unfold vX12_count_61
  intro v9 e1
  have h := h v9 e1
  refine ⟨?_, ?_⟩
  · have h := h.1
    intro e2
    have h := h e2
    exact hQ _ _ h
  · have h := h.2
    refine ⟨?_, ?_⟩
    · have h := h.1
      intro e3
      have h := h e3
      exact hQ _ _ h
    · have h := h.2
      refine ⟨?_, ?_⟩
      · have h := h.1
        intro e4
        have h := h e4
        exact hQ _ _ h
      · have h := h.2
        refine ⟨?_, ?_⟩
        · have h := h.1
          intro e5
          have h := h e5
          exact hQ _ _ h
        · have h := h.2
          refine ⟨?_, ?_⟩
          · have h := h.1
            intro e6
            have h := h e6
            exact hQ _ _ h
          · have h := h.2
            refine ⟨?_, ?_⟩
            · have h := h.1
              intro e7
              have h := h e7
              exact hQ _ _ h
            · have h := h.2
              refine ⟨?_, ?_⟩
              · have h := h.1
                intro e8
                have h := h e8
                exact hQ _ _ h
              · have h := h.2
                refine ⟨?_, ?_⟩
                · have h := h.1
                  intro e9
                  have h := h e9
                  exact hQ _ _ h
                · have h := h.2
                  refine ⟨?_, ?_⟩
                  · have h := h.1
                    intro e10
                    have h := h e10
                    exact hQ _ _ h
                  · have h := h.2
                    refine ⟨?_, ?_⟩
                    · have h := h.1
                      intro e11
                      have h := h e11
                      exact hQ _ _ h
                    · have h := h.2
                      intro e12 e13 e14 e15 e16 e17 e18 e19 e20 e21
                      have h := h e12 e13 e14 e15 e16 e17 e18 e19 e20 e21
                      refine jaX12_fail ?_ _ h
                      intro r21 μ20 h
                      exact hQ _ _ h
set_option maxRecDepth 100000 in
set_option maxHeartbeats 4000000 in
theorem jfX12_count_61 {I : km_S → Prop} (W : gw_ I [1]) {Q : Int32 → km_S → Prop} (hQ : ∀ y0 y1, I y1 → Q y0 y1) : ∀ (l1 : Int32) (l2 : Int32) (l3 : Int32) (μ : km_S), I μ → vX12_count_61 Q l1 l2 l3 μ := by
  intro l1 l2 l3 μ i
  unfold vX12_count_61
  intro v9 e1
  refine ⟨?_, ?_⟩
  · intro e2
    exact hQ _ _ i
  · refine ⟨?_, ?_⟩
    · intro e3
      exact hQ _ _ i
    · refine ⟨?_, ?_⟩
      · intro e4
        exact hQ _ _ i
      · refine ⟨?_, ?_⟩
        · intro e5
          exact hQ _ _ i
        · refine ⟨?_, ?_⟩
          · intro e6
            exact hQ _ _ i
          · refine ⟨?_, ?_⟩
            · intro e7
              exact hQ _ _ i
            · refine ⟨?_, ?_⟩
              · intro e8
                exact hQ _ _ i
              · refine ⟨?_, ?_⟩
                · intro e9
                  exact hQ _ _ i
                · refine ⟨?_, ?_⟩
                  · intro e10
                    exact hQ _ _ i
                  · refine ⟨?_, ?_⟩
                    · intro e11
                      exact hQ _ _ i
                    · intro e12 e13 e14 e15 e16 e17 e18 e19 e20 e21
                      refine jfX12_fail (I := I) (gw_sub W (by decide)) ?_ _ i
                      intro r21 μ20 iμ20
                      exact hQ _ _ iμ20
def vX12_count (l1 : Int32) (μ : km_S) (Q : Int32 → km_S → Prop) : Prop := ∀ μ22, μ22 = km_si μ 1 0 → ∀ j, vX12_count_12 (vX12_count_61 Q) Q j l1 0 0 0 μ22
set_option maxRecDepth 100000 in
set_option maxHeartbeats 4000000 in
theorem jcX12_count {Q Q' Q'' : Int32 → km_S → Prop} (hQ : ∀ y0 y1, Q y0 y1 → Q' y0 y1 → Q'' y0 y1) : ∀ (l1 : Int32) (μ : km_S), wX12_count l1 μ Q → vX12_count l1 μ Q' → wX12_count l1 μ Q'' := by
  intro l1 μ h v
  unfold wX12_count at h
  unfold vX12_count at v
  unfold wX12_count
  intro μ22 e1
  have h := h μ22 e1
  have v := v μ22 e1
  obtain ⟨j, h⟩ := h
  refine ⟨j, ?_⟩
  have v := v j
  exact jcX12_count_12 (k61 := wX12_count_61 Q) (k61' := vX12_count_61 Q') (k61'' := wX12_count_61 Q'') (fun _ _ _ _ h v => jcX12_count_61 hQ _ _ _ _ h v) hQ _ _ _ _ _ _ h v
set_option maxRecDepth 100000 in
set_option maxHeartbeats 4000000 in
theorem jaX12_count {Q Q' : Int32 → km_S → Prop} (hQ : ∀ y0 y1, Q y0 y1 → Q' y0 y1) : ∀ (l1 : Int32) (μ : km_S), wX12_count l1 μ Q → vX12_count l1 μ Q' := by
  intro l1 μ h
  unfold wX12_count at h
  unfold vX12_count
  intro μ22 e1
  have h := h μ22 e1
  obtain ⟨j, h⟩ := h
  intro j9
  exact jaX12_count_12 (k61 := wX12_count_61 Q) (k61' := vX12_count_61 Q') (fun _ _ _ _ h => jaX12_count_61 hQ _ _ _ _ h) hQ _ j9 _ _ _ _ _ h
set_option maxRecDepth 100000 in
set_option maxHeartbeats 4000000 in
theorem jfX12_count {I : km_S → Prop} (W : gw_ I [1]) {Q : Int32 → km_S → Prop} (hQ : ∀ y0 y1, I y1 → Q y0 y1) : ∀ (l1 : Int32) (μ : km_S), I μ → vX12_count l1 μ Q := by
  intro l1 μ i
  unfold vX12_count
  intro μ22 e1
  have iμ22 : I μ22 := by rw [e1]; exact ((W _ i) 1 (by decide)).1 _
  intro j
  exact jfX12_count_12 (I := I) (gw_sub W (by decide)) (k61 := vX12_count_61 Q) (fun _ _ _ _ i => jfX12_count_61 (I := I) (gw_sub W (by decide)) hQ _ _ _ _ i) hQ _ _ _ _ _ _ iμ22
end
section
def vX12_step_222 (k227 : Int32 → Int32 → km_S → Prop) (Q : km_S → Prop) (l1 : Int32) (μ : km_S) : Prop := k227 l1 1 μ
set_option maxRecDepth 100000 in
set_option maxHeartbeats 4000000 in
theorem jcX12_step_222 {k227 k227' k227'' : Int32 → Int32 → km_S → Prop} (hk227 : ∀ y0 y1 y2, k227 y0 y1 y2 → k227' y0 y1 y2 → k227'' y0 y1 y2) {Q Q' Q'' : km_S → Prop} (hQ : ∀ y0, Q y0 → Q' y0 → Q'' y0) : ∀ (l1 : Int32) (μ : km_S), wX12_step_222 k227 Q l1 μ → vX12_step_222 k227' Q' l1 μ → wX12_step_222 k227'' Q'' l1 μ := by
  intro l1 μ h v
  unfold wX12_step_222 at h
  unfold vX12_step_222 at v
  unfold wX12_step_222
  exact hk227 _ _ _ h v
set_option maxRecDepth 100000 in
set_option maxHeartbeats 4000000 in
theorem jaX12_step_222 {k227 k227' : Int32 → Int32 → km_S → Prop} (hk227 : ∀ y0 y1 y2, k227 y0 y1 y2 → k227' y0 y1 y2) {Q Q' : km_S → Prop} (hQ : ∀ y0, Q y0 → Q' y0) : ∀ (l1 : Int32) (μ : km_S), wX12_step_222 k227 Q l1 μ → vX12_step_222 k227' Q' l1 μ := by
  intro l1 μ h
  unfold wX12_step_222 at h
  unfold vX12_step_222
  exact hk227 _ _ _ h
set_option maxRecDepth 100000 in
set_option maxHeartbeats 4000000 in
theorem jfX12_step_222 {I : km_S → Prop} (W : gw_ I []) {k227 : Int32 → Int32 → km_S → Prop} (hk227 : ∀ y0 y1 y2, I y2 → k227 y0 y1 y2) {Q : km_S → Prop} (hQ : ∀ y0, I y0 → Q y0) : ∀ (l1 : Int32) (μ : km_S), I μ → vX12_step_222 k227 Q l1 μ := by
  intro l1 μ i
  unfold vX12_step_222
  exact hk227 _ _ _ i
def vX12_step_238 (k246 : km_S → Prop) (Q : km_S → Prop) (l1 : Int32) (s0 : Int32) (μ : km_S) : Prop := ∀ μ1, μ1 = km_si μ 62 s0 → ∀ μ2, μ2 = km_si μ1 63 l1 → k246 μ2
set_option maxRecDepth 100000 in
set_option maxHeartbeats 4000000 in
theorem jcX12_step_238 {k246 k246' k246'' : km_S → Prop} (hk246 : ∀ y0, k246 y0 → k246' y0 → k246'' y0) {Q Q' Q'' : km_S → Prop} (hQ : ∀ y0, Q y0 → Q' y0 → Q'' y0) : ∀ (l1 : Int32) (s0 : Int32) (μ : km_S), wX12_step_238 k246 Q l1 s0 μ → vX12_step_238 k246' Q' l1 s0 μ → wX12_step_238 k246'' Q'' l1 s0 μ := by
  intro l1 s0 μ h v
  unfold wX12_step_238 at h
  unfold vX12_step_238 at v
  unfold wX12_step_238
  intro μ1 e1
  have h := h μ1 e1
  have v := v μ1 e1
  intro μ2 e2
  have h := h μ2 e2
  have v := v μ2 e2
  exact hk246 _ h v
set_option maxRecDepth 100000 in
set_option maxHeartbeats 4000000 in
theorem jaX12_step_238 {k246 k246' : km_S → Prop} (hk246 : ∀ y0, k246 y0 → k246' y0) {Q Q' : km_S → Prop} (hQ : ∀ y0, Q y0 → Q' y0) : ∀ (l1 : Int32) (s0 : Int32) (μ : km_S), wX12_step_238 k246 Q l1 s0 μ → vX12_step_238 k246' Q' l1 s0 μ := by
  intro l1 s0 μ h
  unfold wX12_step_238 at h
  unfold vX12_step_238
  intro μ1 e1
  have h := h μ1 e1
  intro μ2 e2
  have h := h μ2 e2
  exact hk246 _ h
set_option maxRecDepth 100000 in
set_option maxHeartbeats 4000000 in
theorem jfX12_step_238 {I : km_S → Prop} (W : gw_ I [62, 63]) {k246 : km_S → Prop} (hk246 : ∀ y0, I y0 → k246 y0) {Q : km_S → Prop} (hQ : ∀ y0, I y0 → Q y0) : ∀ (l1 : Int32) (s0 : Int32) (μ : km_S), I μ → vX12_step_238 k246 Q l1 s0 μ := by
  intro l1 s0 μ i
  unfold vX12_step_238
  intro μ1 e1
  have iμ1 : I μ1 := by rw [e1]; exact ((W _ i) 62 (by decide)).1 _
  intro μ2 e2
  have iμ2 : I μ2 := by rw [e2]; exact ((W _ iμ1) 63 (by decide)).1 _
  exact hk246 _ iμ2
def vX12_step_150 (k246 : km_S → Prop) (Q : km_S → Prop) (μ : km_S) : Prop := ∀ μ3, μ3 = km_si μ 62 2 → k246 μ3
set_option maxRecDepth 100000 in
set_option maxHeartbeats 4000000 in
theorem jcX12_step_150 {k246 k246' k246'' : km_S → Prop} (hk246 : ∀ y0, k246 y0 → k246' y0 → k246'' y0) {Q Q' Q'' : km_S → Prop} (hQ : ∀ y0, Q y0 → Q' y0 → Q'' y0) : ∀ (μ : km_S), wX12_step_150 k246 Q μ → vX12_step_150 k246' Q' μ → wX12_step_150 k246'' Q'' μ := by
  intro μ h v
  unfold wX12_step_150 at h
  unfold vX12_step_150 at v
  unfold wX12_step_150
  intro μ3 e1
  have h := h μ3 e1
  have v := v μ3 e1
  exact hk246 _ h v
set_option maxRecDepth 100000 in
set_option maxHeartbeats 4000000 in
theorem jaX12_step_150 {k246 k246' : km_S → Prop} (hk246 : ∀ y0, k246 y0 → k246' y0) {Q Q' : km_S → Prop} (hQ : ∀ y0, Q y0 → Q' y0) : ∀ (μ : km_S), wX12_step_150 k246 Q μ → vX12_step_150 k246' Q' μ := by
  intro μ h
  unfold wX12_step_150 at h
  unfold vX12_step_150
  intro μ3 e1
  have h := h μ3 e1
  exact hk246 _ h
set_option maxRecDepth 100000 in
set_option maxHeartbeats 4000000 in
theorem jfX12_step_150 {I : km_S → Prop} (W : gw_ I [62]) {k246 : km_S → Prop} (hk246 : ∀ y0, I y0 → k246 y0) {Q : km_S → Prop} (hQ : ∀ y0, I y0 → Q y0) : ∀ (μ : km_S), I μ → vX12_step_150 k246 Q μ := by
  intro μ i
  unfold vX12_step_150
  intro μ3 e1
  have iμ3 : I μ3 := by rw [e1]; exact ((W _ i) 62 (by decide)).1 _
  exact hk246 _ iμ3
def vX12_step_108 (k246 : km_S → Prop) (Q : km_S → Prop) (μ : km_S) : Prop := ∀ μ4, μ4 = km_si μ 62 1 → k246 μ4
set_option maxRecDepth 100000 in
set_option maxHeartbeats 4000000 in
theorem jcX12_step_108 {k246 k246' k246'' : km_S → Prop} (hk246 : ∀ y0, k246 y0 → k246' y0 → k246'' y0) {Q Q' Q'' : km_S → Prop} (hQ : ∀ y0, Q y0 → Q' y0 → Q'' y0) : ∀ (μ : km_S), wX12_step_108 k246 Q μ → vX12_step_108 k246' Q' μ → wX12_step_108 k246'' Q'' μ := by
  intro μ h v
  unfold wX12_step_108 at h
  unfold vX12_step_108 at v
  unfold wX12_step_108
  intro μ4 e1
  have h := h μ4 e1
  have v := v μ4 e1
  exact hk246 _ h v
set_option maxRecDepth 100000 in
set_option maxHeartbeats 4000000 in
theorem jaX12_step_108 {k246 k246' : km_S → Prop} (hk246 : ∀ y0, k246 y0 → k246' y0) {Q Q' : km_S → Prop} (hQ : ∀ y0, Q y0 → Q' y0) : ∀ (μ : km_S), wX12_step_108 k246 Q μ → vX12_step_108 k246' Q' μ := by
  intro μ h
  unfold wX12_step_108 at h
  unfold vX12_step_108
  intro μ4 e1
  have h := h μ4 e1
  exact hk246 _ h
set_option maxRecDepth 100000 in
set_option maxHeartbeats 4000000 in
theorem jfX12_step_108 {I : km_S → Prop} (W : gw_ I [62]) {k246 : km_S → Prop} (hk246 : ∀ y0, I y0 → k246 y0) {Q : km_S → Prop} (hQ : ∀ y0, I y0 → Q y0) : ∀ (μ : km_S), I μ → vX12_step_108 k246 Q μ := by
  intro μ i
  unfold vX12_step_108
  intro μ4 e1
  have iμ4 : I μ4 := by rw [e1]; exact ((W _ i) 62 (by decide)).1 _
  exact hk246 _ iμ4
def vX12_step_246 (Q : km_S → Prop) (μ : km_S) : Prop := ∀ μ5, μ5 = km_si μ 65 (km_i μ 60) → Q μ5
set_option maxRecDepth 100000 in
set_option maxHeartbeats 4000000 in
theorem jcX12_step_246 {Q Q' Q'' : km_S → Prop} (hQ : ∀ y0, Q y0 → Q' y0 → Q'' y0) : ∀ (μ : km_S), wX12_step_246 Q μ → vX12_step_246 Q' μ → wX12_step_246 Q'' μ := by
  intro μ h v
  unfold wX12_step_246 at h
  unfold vX12_step_246 at v
  unfold wX12_step_246
  intro μ5 e1
  have h := h μ5 e1
  have v := v μ5 e1
  exact hQ _ h v
set_option maxRecDepth 100000 in
set_option maxHeartbeats 4000000 in
theorem jaX12_step_246 {Q Q' : km_S → Prop} (hQ : ∀ y0, Q y0 → Q' y0) : ∀ (μ : km_S), wX12_step_246 Q μ → vX12_step_246 Q' μ := by
  intro μ h
  unfold wX12_step_246 at h
  unfold vX12_step_246
  intro μ5 e1
  have h := h μ5 e1
  exact hQ _ h
set_option maxRecDepth 100000 in
set_option maxHeartbeats 4000000 in
theorem jfX12_step_246 {I : km_S → Prop} (W : gw_ I [65]) {Q : km_S → Prop} (hQ : ∀ y0, I y0 → Q y0) : ∀ (μ : km_S), I μ → vX12_step_246 Q μ := by
  intro μ i
  unfold vX12_step_246
  intro μ5 e1
  have iμ5 : I μ5 := by rw [e1]; exact ((W _ i) 65 (by decide)).1 _
  exact hQ _ iμ5
def vX12_step_26 (k0 : km_S → Prop) (Q : km_S → Prop) (μ : km_S) : Prop := ∀ μ6, μ6 = km_si μ 60 ((km_i μ 60) + 1) → k0 μ6
set_option maxRecDepth 100000 in
set_option maxHeartbeats 4000000 in
theorem jcX12_step_26 {k0 k0' k0'' : km_S → Prop} (hk0 : ∀ y0, k0 y0 → k0' y0 → k0'' y0) {Q Q' Q'' : km_S → Prop} (hQ : ∀ y0, Q y0 → Q' y0 → Q'' y0) : ∀ (μ : km_S), wX12_step_26 k0 Q μ → vX12_step_26 k0' Q' μ → wX12_step_26 k0'' Q'' μ := by
  intro μ h v
  unfold wX12_step_26 at h
  unfold vX12_step_26 at v
  unfold wX12_step_26
  intro μ6 e1
  have h := h μ6 e1
  have v := v μ6 e1
  exact hk0 _ h v
set_option maxRecDepth 100000 in
set_option maxHeartbeats 4000000 in
theorem jaX12_step_26 {k0 k0' : km_S → Prop} (hk0 : ∀ y0, k0 y0 → k0' y0) {Q Q' : km_S → Prop} (hQ : ∀ y0, Q y0 → Q' y0) : ∀ (μ : km_S), wX12_step_26 k0 Q μ → vX12_step_26 k0' Q' μ := by
  intro μ h
  unfold wX12_step_26 at h
  unfold vX12_step_26
  intro μ6 e1
  have h := h μ6 e1
  exact hk0 _ h
set_option maxRecDepth 100000 in
set_option maxHeartbeats 4000000 in
theorem jfX12_step_26 {I : km_S → Prop} (W : gw_ I [60]) {k0 : km_S → Prop} (hk0 : ∀ y0, I y0 → k0 y0) {Q : km_S → Prop} (hQ : ∀ y0, I y0 → Q y0) : ∀ (μ : km_S), I μ → vX12_step_26 k0 Q μ := by
  intro μ i
  unfold vX12_step_26
  intro μ6 e1
  have iμ6 : I μ6 := by rw [e1]; exact ((W _ i) 60 (by decide)).1 _
  exact hk0 _ iμ6
def vX12_step_227 (k246 : km_S → Prop) (Q : km_S → Prop) (l1 : Int32) (s0 : Int32) (μ : km_S) : Prop := ((s0 = 0 → vX12_step_238 k246 Q l1 4 μ) ∧ (¬ (s0 = 0) → vX12_step_238 k246 Q l1 3 μ))
set_option maxRecDepth 100000 in
set_option maxHeartbeats 4000000 in
theorem jcX12_step_227 {k246 k246' k246'' : km_S → Prop} (hk246 : ∀ y0, k246 y0 → k246' y0 → k246'' y0) {Q Q' Q'' : km_S → Prop} (hQ : ∀ y0, Q y0 → Q' y0 → Q'' y0) : ∀ (l1 : Int32) (s0 : Int32) (μ : km_S), wX12_step_227 k246 Q l1 s0 μ → vX12_step_227 k246' Q' l1 s0 μ → wX12_step_227 k246'' Q'' l1 s0 μ := by
  intro l1 s0 μ h v
  unfold wX12_step_227 at h
  unfold vX12_step_227 at v
  unfold wX12_step_227
  refine ⟨?_, ?_⟩
  · have h := h.1
    have v := v.1
    intro e1
    have h := h e1
    have v := v e1
    exact jcX12_step_238 hk246 hQ _ _ _ h v
  · have h := h.2
    have v := v.2
    intro e2
    have h := h e2
    have v := v e2
    exact jcX12_step_238 hk246 hQ _ _ _ h v
set_option maxRecDepth 100000 in
set_option maxHeartbeats 4000000 in
theorem jaX12_step_227 {k246 k246' : km_S → Prop} (hk246 : ∀ y0, k246 y0 → k246' y0) {Q Q' : km_S → Prop} (hQ : ∀ y0, Q y0 → Q' y0) : ∀ (l1 : Int32) (s0 : Int32) (μ : km_S), wX12_step_227 k246 Q l1 s0 μ → vX12_step_227 k246' Q' l1 s0 μ := by
  intro l1 s0 μ h
  unfold wX12_step_227 at h
  unfold vX12_step_227
  refine ⟨?_, ?_⟩
  · have h := h.1
    intro e1
    have h := h e1
    exact jaX12_step_238 hk246 hQ _ _ _ h
  · have h := h.2
    intro e2
    have h := h e2
    exact jaX12_step_238 hk246 hQ _ _ _ h
set_option maxRecDepth 100000 in
set_option maxHeartbeats 4000000 in
theorem jfX12_step_227 {I : km_S → Prop} (W : gw_ I [62, 63]) {k246 : km_S → Prop} (hk246 : ∀ y0, I y0 → k246 y0) {Q : km_S → Prop} (hQ : ∀ y0, I y0 → Q y0) : ∀ (l1 : Int32) (s0 : Int32) (μ : km_S), I μ → vX12_step_227 k246 Q l1 s0 μ := by
  intro l1 s0 μ i
  unfold vX12_step_227
  refine ⟨?_, ?_⟩
  · intro e1
    exact jfX12_step_238 (I := I) (gw_sub W (by decide)) hk246 hQ _ _ _ i
  · intro e2
    exact jfX12_step_238 (I := I) (gw_sub W (by decide)) hk246 hQ _ _ _ i
def vX12_step_123 (k150 : km_S → Prop) (Q : km_S → Prop) : Nat → km_S → Prop
  | 0, _ => True
  | n + 1, μ => vX12_byteAt (km_i μ 60) μ (fun r9 μ8 => vX12_isDigit r9 μ8 (fun r11 μ10 => ((r11 = 0 → k150 μ10) ∧ (¬ (r11 = 0) → ∀ μ13, μ13 = km_si μ10 60 ((km_i μ10 60) + 1) → vX12_step_123 k150 Q n μ13))))
set_option maxRecDepth 100000 in
set_option maxHeartbeats 4000000 in
theorem jcX12_step_123 {k150 k150' k150'' : km_S → Prop} (hk150 : ∀ y0, k150 y0 → k150' y0 → k150'' y0) {Q Q' Q'' : km_S → Prop} (hQ : ∀ y0, Q y0 → Q' y0 → Q'' y0) : ∀ (n : Nat) (μ : km_S), wX12_step_123 k150 Q n μ → vX12_step_123 k150' Q' n μ → wX12_step_123 k150'' Q'' n μ := by
  intro n
  induction n with
  | zero => intro μ h; exact h.elim
  | succ n ih =>
    intro μ h v
    unfold wX12_step_123 at h
    unfold vX12_step_123 at v
    unfold wX12_step_123
    refine jcX12_byteAt ?_ _ _ h v
    intro r9 μ8 h v
    refine jcX12_isDigit ?_ _ _ h v
    intro r11 μ10 h v
    refine ⟨?_, ?_⟩
    · have h := h.1
      have v := v.1
      intro e1
      have h := h e1
      have v := v e1
      exact hk150 _ h v
    · have h := h.2
      have v := v.2
      intro e2
      have h := h e2
      have v := v e2
      intro μ13 e3
      have h := h μ13 e3
      have v := v μ13 e3
      exact ih _ h v
set_option maxRecDepth 100000 in
set_option maxHeartbeats 4000000 in
theorem jaX12_step_123 {k150 k150' : km_S → Prop} (hk150 : ∀ y0, k150 y0 → k150' y0) {Q Q' : km_S → Prop} (hQ : ∀ y0, Q y0 → Q' y0) : ∀ (n m : Nat) (μ : km_S), wX12_step_123 k150 Q n μ → vX12_step_123 k150' Q' m μ := by
  intro n
  induction n with
  | zero => intro m μ h; exact h.elim
  | succ n ih =>
    intro m μ h
    cases m with
    | zero => exact trivial
    | succ m =>
      unfold wX12_step_123 at h
      unfold vX12_step_123
      refine jaX12_byteAt ?_ _ _ h
      intro r9 μ8 h
      refine jaX12_isDigit ?_ _ _ h
      intro r11 μ10 h
      refine ⟨?_, ?_⟩
      · have h := h.1
        intro e1
        have h := h e1
        exact hk150 _ h
      · have h := h.2
        intro e2
        have h := h e2
        intro μ13 e3
        have h := h μ13 e3
        exact ih m _ h
set_option maxRecDepth 100000 in
set_option maxHeartbeats 4000000 in
theorem jfX12_step_123 {I : km_S → Prop} (W : gw_ I [60]) {k150 : km_S → Prop} (hk150 : ∀ y0, I y0 → k150 y0) {Q : km_S → Prop} (hQ : ∀ y0, I y0 → Q y0) : ∀ (n : Nat) (μ : km_S), I μ → vX12_step_123 k150 Q n μ := by
  intro n
  induction n with
  | zero => intro μ i; exact trivial
  | succ n ih =>
    intro μ i
    unfold vX12_step_123
    refine jfX12_byteAt (I := I) (gw_sub W (by decide)) ?_ _ _ i
    intro r9 μ8 iμ8
    refine jfX12_isDigit (I := I) (gw_sub W (by decide)) ?_ _ _ iμ8
    intro r11 μ10 iμ10
    refine ⟨?_, ?_⟩
    · intro e1
      exact hk150 _ iμ10
    · intro e2
      intro μ13 e3
      have iμ13 : I μ13 := by rw [e3]; exact ((W _ iμ10) 60 (by decide)).1 _
      exact ih _ iμ13
def vX12_step_81 (k108 : km_S → Prop) (Q : km_S → Prop) : Nat → km_S → Prop
  | 0, _ => True
  | n + 1, μ => vX12_byteAt (km_i μ 60) μ (fun r15 μ14 => vX12_isLetter r15 μ14 (fun r17 μ16 => ((r17 = 0 → k108 μ16) ∧ (¬ (r17 = 0) → ∀ μ19, μ19 = km_si μ16 60 ((km_i μ16 60) + 1) → vX12_step_81 k108 Q n μ19))))
set_option maxRecDepth 100000 in
set_option maxHeartbeats 4000000 in
theorem jcX12_step_81 {k108 k108' k108'' : km_S → Prop} (hk108 : ∀ y0, k108 y0 → k108' y0 → k108'' y0) {Q Q' Q'' : km_S → Prop} (hQ : ∀ y0, Q y0 → Q' y0 → Q'' y0) : ∀ (n : Nat) (μ : km_S), wX12_step_81 k108 Q n μ → vX12_step_81 k108' Q' n μ → wX12_step_81 k108'' Q'' n μ := by
  intro n
  induction n with
  | zero => intro μ h; exact h.elim
  | succ n ih =>
    intro μ h v
    unfold wX12_step_81 at h
    unfold vX12_step_81 at v
    unfold wX12_step_81
    refine jcX12_byteAt ?_ _ _ h v
    intro r15 μ14 h v
    refine jcX12_isLetter ?_ _ _ h v
    intro r17 μ16 h v
    refine ⟨?_, ?_⟩
    · have h := h.1
      have v := v.1
      intro e1
      have h := h e1
      have v := v e1
      exact hk108 _ h v
    · have h := h.2
      have v := v.2
      intro e2
      have h := h e2
      have v := v e2
      intro μ19 e3
      have h := h μ19 e3
      have v := v μ19 e3
      exact ih _ h v
set_option maxRecDepth 100000 in
set_option maxHeartbeats 4000000 in
theorem jaX12_step_81 {k108 k108' : km_S → Prop} (hk108 : ∀ y0, k108 y0 → k108' y0) {Q Q' : km_S → Prop} (hQ : ∀ y0, Q y0 → Q' y0) : ∀ (n m : Nat) (μ : km_S), wX12_step_81 k108 Q n μ → vX12_step_81 k108' Q' m μ := by
  intro n
  induction n with
  | zero => intro m μ h; exact h.elim
  | succ n ih =>
    intro m μ h
    cases m with
    | zero => exact trivial
    | succ m =>
      unfold wX12_step_81 at h
      unfold vX12_step_81
      refine jaX12_byteAt ?_ _ _ h
      intro r15 μ14 h
      refine jaX12_isLetter ?_ _ _ h
      intro r17 μ16 h
      refine ⟨?_, ?_⟩
      · have h := h.1
        intro e1
        have h := h e1
        exact hk108 _ h
      · have h := h.2
        intro e2
        have h := h e2
        intro μ19 e3
        have h := h μ19 e3
        exact ih m _ h
set_option maxRecDepth 100000 in
set_option maxHeartbeats 4000000 in
theorem jfX12_step_81 {I : km_S → Prop} (W : gw_ I [60]) {k108 : km_S → Prop} (hk108 : ∀ y0, I y0 → k108 y0) {Q : km_S → Prop} (hQ : ∀ y0, I y0 → Q y0) : ∀ (n : Nat) (μ : km_S), I μ → vX12_step_81 k108 Q n μ := by
  intro n
  induction n with
  | zero => intro μ i; exact trivial
  | succ n ih =>
    intro μ i
    unfold vX12_step_81
    refine jfX12_byteAt (I := I) (gw_sub W (by decide)) ?_ _ _ i
    intro r15 μ14 iμ14
    refine jfX12_isLetter (I := I) (gw_sub W (by decide)) ?_ _ _ iμ14
    intro r17 μ16 iμ16
    refine ⟨?_, ?_⟩
    · intro e1
      exact hk108 _ iμ16
    · intro e2
      intro μ19 e3
      have iμ19 : I μ19 := by rw [e3]; exact ((W _ iμ16) 60 (by decide)).1 _
      exact ih _ iμ19
def vX12_step_0 (k39 : km_S → Prop) (Q : km_S → Prop) : Nat → km_S → Prop
  | 0, _ => True
  | n + 1, μ => vX12_byteAt (km_i μ 60) μ (fun r21 μ20 => ((r21 = 32 → vX12_step_26 (vX12_step_0 k39 Q n) Q μ20) ∧ (¬ (r21 = 32) → vX12_byteAt (km_i μ20 60) μ20 (fun r24 μ23 => ((¬ r24 = 10 → k39 μ23) ∧ (r24 = 10 → vX12_step_26 (vX12_step_0 k39 Q n) Q μ23))))))
set_option maxRecDepth 100000 in
set_option maxHeartbeats 4000000 in
theorem jcX12_step_0 {k39 k39' k39'' : km_S → Prop} (hk39 : ∀ y0, k39 y0 → k39' y0 → k39'' y0) {Q Q' Q'' : km_S → Prop} (hQ : ∀ y0, Q y0 → Q' y0 → Q'' y0) : ∀ (n : Nat) (μ : km_S), wX12_step_0 k39 Q n μ → vX12_step_0 k39' Q' n μ → wX12_step_0 k39'' Q'' n μ := by
  intro n
  induction n with
  | zero => intro μ h; exact h.elim
  | succ n ih =>
    intro μ h v
    unfold wX12_step_0 at h
    unfold vX12_step_0 at v
    unfold wX12_step_0
    refine jcX12_byteAt ?_ _ _ h v
    intro r21 μ20 h v
    refine ⟨?_, ?_⟩
    · have h := h.1
      have v := v.1
      intro e1
      have h := h e1
      have v := v e1
      exact jcX12_step_26 (k0 := wX12_step_0 k39 Q n) (k0' := vX12_step_0 k39' Q' n) (k0'' := wX12_step_0 k39'' Q'' n) (fun _ h v => ih _ h v) hQ _ h v
    · have h := h.2
      have v := v.2
      intro e2
      have h := h e2
      have v := v e2
      refine jcX12_byteAt ?_ _ _ h v
      intro r24 μ23 h v
      refine ⟨?_, ?_⟩
      · have h := h.1
        have v := v.1
        intro e3
        have h := h e3
        have v := v e3
        exact hk39 _ h v
      · have h := h.2
        have v := v.2
        intro e4
        have h := h e4
        have v := v e4
        exact jcX12_step_26 (k0 := wX12_step_0 k39 Q n) (k0' := vX12_step_0 k39' Q' n) (k0'' := wX12_step_0 k39'' Q'' n) (fun _ h v => ih _ h v) hQ _ h v
set_option maxRecDepth 100000 in
set_option maxHeartbeats 4000000 in
theorem jaX12_step_0 {k39 k39' : km_S → Prop} (hk39 : ∀ y0, k39 y0 → k39' y0) {Q Q' : km_S → Prop} (hQ : ∀ y0, Q y0 → Q' y0) : ∀ (n m : Nat) (μ : km_S), wX12_step_0 k39 Q n μ → vX12_step_0 k39' Q' m μ := by
  intro n
  induction n with
  | zero => intro m μ h; exact h.elim
  | succ n ih =>
    intro m μ h
    cases m with
    | zero => exact trivial
    | succ m =>
      unfold wX12_step_0 at h
      unfold vX12_step_0
      refine jaX12_byteAt ?_ _ _ h
      intro r21 μ20 h
      refine ⟨?_, ?_⟩
      · have h := h.1
        intro e1
        have h := h e1
        exact jaX12_step_26 (k0 := wX12_step_0 k39 Q n) (k0' := vX12_step_0 k39' Q' m) (fun _ h => ih m _ h) hQ _ h
      · have h := h.2
        intro e2
        have h := h e2
        refine jaX12_byteAt ?_ _ _ h
        intro r24 μ23 h
        refine ⟨?_, ?_⟩
        · have h := h.1
          intro e3
          have h := h e3
          exact hk39 _ h
        · have h := h.2
          intro e4
          have h := h e4
          exact jaX12_step_26 (k0 := wX12_step_0 k39 Q n) (k0' := vX12_step_0 k39' Q' m) (fun _ h => ih m _ h) hQ _ h
set_option maxRecDepth 100000 in
set_option maxHeartbeats 4000000 in
theorem jfX12_step_0 {I : km_S → Prop} (W : gw_ I [60]) {k39 : km_S → Prop} (hk39 : ∀ y0, I y0 → k39 y0) {Q : km_S → Prop} (hQ : ∀ y0, I y0 → Q y0) : ∀ (n : Nat) (μ : km_S), I μ → vX12_step_0 k39 Q n μ := by
  intro n
  induction n with
  | zero => intro μ i; exact trivial
  | succ n ih =>
    intro μ i
    unfold vX12_step_0
    refine jfX12_byteAt (I := I) (gw_sub W (by decide)) ?_ _ _ i
    intro r21 μ20 iμ20
    refine ⟨?_, ?_⟩
    · intro e1
      exact jfX12_step_26 (I := I) (gw_sub W (by decide)) (k0 := vX12_step_0 k39 Q n) (fun _ i => ih _ i) hQ _ iμ20
    · intro e2
      refine jfX12_byteAt (I := I) (gw_sub W (by decide)) ?_ _ _ iμ20
      intro r24 μ23 iμ23
      refine ⟨?_, ?_⟩
      · intro e3
        exact hk39 _ iμ23
      · intro e4
        exact jfX12_step_26 (I := I) (gw_sub W (by decide)) (k0 := vX12_step_0 k39 Q n) (fun _ i => ih _ i) hQ _ iμ23
def vX12_step_39 (Q : km_S → Prop) (μ : km_S) : Prop := ∀ μ26, μ26 = km_si μ 64 (km_i μ 60) → ∀ μ27, μ27 = km_si μ26 63 0 → vX12_byteAt (km_i μ27 60) μ27 (fun r29 μ28 => ((¬ r29 = (-1) → vX12_isLetter r29 μ28 (fun r32 μ31 => ((r32 = 0 → vX12_isDigit r29 μ31 (fun r35 μ34 => ((r35 = 0 → ∀ μ37, μ37 = km_si μ34 60 ((km_i μ34 60) + 1) → ((r29 = 40 → vX12_step_222 (vX12_step_227 (vX12_step_246 Q) Q) Q r29 μ37) ∧ (¬ (r29 = 40) → ((r29 = 41 → vX12_step_222 (vX12_step_227 (vX12_step_246 Q) Q) Q r29 μ37) ∧ (¬ (r29 = 41) → ((r29 = 59 → vX12_step_222 (vX12_step_227 (vX12_step_246 Q) Q) Q r29 μ37) ∧ (¬ (r29 = 59) → ((r29 = 43 → vX12_step_222 (vX12_step_227 (vX12_step_246 Q) Q) Q r29 μ37) ∧ (¬ (r29 = 43) → ((r29 = 45 → vX12_step_222 (vX12_step_227 (vX12_step_246 Q) Q) Q r29 μ37) ∧ (¬ (r29 = 45) → ((r29 = 42 → vX12_step_222 (vX12_step_227 (vX12_step_246 Q) Q) Q r29 μ37) ∧ (¬ (r29 = 42) → ((r29 = 47 → vX12_step_222 (vX12_step_227 (vX12_step_246 Q) Q) Q r29 μ37) ∧ (¬ (r29 = 47) → ((r29 = 60 → vX12_step_222 (vX12_step_227 (vX12_step_246 Q) Q) Q r29 μ37) ∧ (¬ (r29 = 60) → ((¬ r29 = 61 → vX12_step_227 (vX12_step_246 Q) Q r29 0 μ37) ∧ (r29 = 61 → vX12_step_222 (vX12_step_227 (vX12_step_246 Q) Q) Q r29 μ37))))))))))))))))))) ∧ (¬ (r35 = 0) → ∀ j, vX12_step_123 (vX12_step_150 (vX12_step_246 Q) Q) Q j μ34)))) ∧ (¬ (r32 = 0) → ∀ j, vX12_step_81 (vX12_step_108 (vX12_step_246 Q) Q) Q j μ31)))) ∧ (r29 = (-1) → ∀ μ49, μ49 = km_si μ28 62 0 → vX12_step_246 Q μ49)))
set_option maxRecDepth 100000 in
set_option maxHeartbeats 4000000 in
theorem jcX12_step_39 {Q Q' Q'' : km_S → Prop} (hQ : ∀ y0, Q y0 → Q' y0 → Q'' y0) : ∀ (μ : km_S), wX12_step_39 Q μ → vX12_step_39 Q' μ → wX12_step_39 Q'' μ := by
  intro μ h v
  unfold wX12_step_39 at h
  unfold vX12_step_39 at v
  unfold wX12_step_39
  intro μ26 e1
  have h := h μ26 e1
  have v := v μ26 e1
  intro μ27 e2
  have h := h μ27 e2
  have v := v μ27 e2
  refine jcX12_byteAt ?_ _ _ h v
  intro r29 μ28 h v
  refine ⟨?_, ?_⟩
  · have h := h.1
    have v := v.1
    intro e3
    have h := h e3
    have v := v e3
    refine jcX12_isLetter ?_ _ _ h v
    intro r32 μ31 h v
    refine ⟨?_, ?_⟩
    · have h := h.1
      have v := v.1
      intro e4
      have h := h e4
      have v := v e4
      refine jcX12_isDigit ?_ _ _ h v
      intro r35 μ34 h v
      refine ⟨?_, ?_⟩
      · have h := h.1
        have v := v.1
        intro e5
        have h := h e5
        have v := v e5
        intro μ37 e6
        have h := h μ37 e6
        have v := v μ37 e6
        refine ⟨?_, ?_⟩
        · have h := h.1
          have v := v.1
          intro e7
          have h := h e7
          have v := v e7
          exact jcX12_step_222 (k227 := wX12_step_227 (wX12_step_246 Q) Q) (k227' := vX12_step_227 (vX12_step_246 Q') Q') (k227'' := wX12_step_227 (wX12_step_246 Q'') Q'') (fun _ _ _ h v => jcX12_step_227 (k246 := wX12_step_246 Q) (k246' := vX12_step_246 Q') (k246'' := wX12_step_246 Q'') (fun _ h v => jcX12_step_246 hQ _ h v) hQ _ _ _ h v) hQ _ _ h v
        · have h := h.2
          have v := v.2
          intro e8
          have h := h e8
          have v := v e8
          refine ⟨?_, ?_⟩
          · have h := h.1
            have v := v.1
            intro e9
            have h := h e9
            have v := v e9
            exact jcX12_step_222 (k227 := wX12_step_227 (wX12_step_246 Q) Q) (k227' := vX12_step_227 (vX12_step_246 Q') Q') (k227'' := wX12_step_227 (wX12_step_246 Q'') Q'') (fun _ _ _ h v => jcX12_step_227 (k246 := wX12_step_246 Q) (k246' := vX12_step_246 Q') (k246'' := wX12_step_246 Q'') (fun _ h v => jcX12_step_246 hQ _ h v) hQ _ _ _ h v) hQ _ _ h v
          · have h := h.2
            have v := v.2
            intro e10
            have h := h e10
            have v := v e10
            refine ⟨?_, ?_⟩
            · have h := h.1
              have v := v.1
              intro e11
              have h := h e11
              have v := v e11
              exact jcX12_step_222 (k227 := wX12_step_227 (wX12_step_246 Q) Q) (k227' := vX12_step_227 (vX12_step_246 Q') Q') (k227'' := wX12_step_227 (wX12_step_246 Q'') Q'') (fun _ _ _ h v => jcX12_step_227 (k246 := wX12_step_246 Q) (k246' := vX12_step_246 Q') (k246'' := wX12_step_246 Q'') (fun _ h v => jcX12_step_246 hQ _ h v) hQ _ _ _ h v) hQ _ _ h v
            · have h := h.2
              have v := v.2
              intro e12
              have h := h e12
              have v := v e12
              refine ⟨?_, ?_⟩
              · have h := h.1
                have v := v.1
                intro e13
                have h := h e13
                have v := v e13
                exact jcX12_step_222 (k227 := wX12_step_227 (wX12_step_246 Q) Q) (k227' := vX12_step_227 (vX12_step_246 Q') Q') (k227'' := wX12_step_227 (wX12_step_246 Q'') Q'') (fun _ _ _ h v => jcX12_step_227 (k246 := wX12_step_246 Q) (k246' := vX12_step_246 Q') (k246'' := wX12_step_246 Q'') (fun _ h v => jcX12_step_246 hQ _ h v) hQ _ _ _ h v) hQ _ _ h v
              · have h := h.2
                have v := v.2
                intro e14
                have h := h e14
                have v := v e14
                refine ⟨?_, ?_⟩
                · have h := h.1
                  have v := v.1
                  intro e15
                  have h := h e15
                  have v := v e15
                  exact jcX12_step_222 (k227 := wX12_step_227 (wX12_step_246 Q) Q) (k227' := vX12_step_227 (vX12_step_246 Q') Q') (k227'' := wX12_step_227 (wX12_step_246 Q'') Q'') (fun _ _ _ h v => jcX12_step_227 (k246 := wX12_step_246 Q) (k246' := vX12_step_246 Q') (k246'' := wX12_step_246 Q'') (fun _ h v => jcX12_step_246 hQ _ h v) hQ _ _ _ h v) hQ _ _ h v
                · have h := h.2
                  have v := v.2
                  intro e16
                  have h := h e16
                  have v := v e16
                  refine ⟨?_, ?_⟩
                  · have h := h.1
                    have v := v.1
                    intro e17
                    have h := h e17
                    have v := v e17
                    exact jcX12_step_222 (k227 := wX12_step_227 (wX12_step_246 Q) Q) (k227' := vX12_step_227 (vX12_step_246 Q') Q') (k227'' := wX12_step_227 (wX12_step_246 Q'') Q'') (fun _ _ _ h v => jcX12_step_227 (k246 := wX12_step_246 Q) (k246' := vX12_step_246 Q') (k246'' := wX12_step_246 Q'') (fun _ h v => jcX12_step_246 hQ _ h v) hQ _ _ _ h v) hQ _ _ h v
                  · have h := h.2
                    have v := v.2
                    intro e18
                    have h := h e18
                    have v := v e18
                    refine ⟨?_, ?_⟩
                    · have h := h.1
                      have v := v.1
                      intro e19
                      have h := h e19
                      have v := v e19
                      exact jcX12_step_222 (k227 := wX12_step_227 (wX12_step_246 Q) Q) (k227' := vX12_step_227 (vX12_step_246 Q') Q') (k227'' := wX12_step_227 (wX12_step_246 Q'') Q'') (fun _ _ _ h v => jcX12_step_227 (k246 := wX12_step_246 Q) (k246' := vX12_step_246 Q') (k246'' := wX12_step_246 Q'') (fun _ h v => jcX12_step_246 hQ _ h v) hQ _ _ _ h v) hQ _ _ h v
                    · have h := h.2
                      have v := v.2
                      intro e20
                      have h := h e20
                      have v := v e20
                      refine ⟨?_, ?_⟩
                      · have h := h.1
                        have v := v.1
                        intro e21
                        have h := h e21
                        have v := v e21
                        exact jcX12_step_222 (k227 := wX12_step_227 (wX12_step_246 Q) Q) (k227' := vX12_step_227 (vX12_step_246 Q') Q') (k227'' := wX12_step_227 (wX12_step_246 Q'') Q'') (fun _ _ _ h v => jcX12_step_227 (k246 := wX12_step_246 Q) (k246' := vX12_step_246 Q') (k246'' := wX12_step_246 Q'') (fun _ h v => jcX12_step_246 hQ _ h v) hQ _ _ _ h v) hQ _ _ h v
                      · have h := h.2
                        have v := v.2
                        intro e22
                        have h := h e22
                        have v := v e22
                        refine ⟨?_, ?_⟩
                        · have h := h.1
                          have v := v.1
                          intro e23
                          have h := h e23
                          have v := v e23
                          exact jcX12_step_227 (k246 := wX12_step_246 Q) (k246' := vX12_step_246 Q') (k246'' := wX12_step_246 Q'') (fun _ h v => jcX12_step_246 hQ _ h v) hQ _ _ _ h v
                        · have h := h.2
                          have v := v.2
                          intro e24
                          have h := h e24
                          have v := v e24
                          exact jcX12_step_222 (k227 := wX12_step_227 (wX12_step_246 Q) Q) (k227' := vX12_step_227 (vX12_step_246 Q') Q') (k227'' := wX12_step_227 (wX12_step_246 Q'') Q'') (fun _ _ _ h v => jcX12_step_227 (k246 := wX12_step_246 Q) (k246' := vX12_step_246 Q') (k246'' := wX12_step_246 Q'') (fun _ h v => jcX12_step_246 hQ _ h v) hQ _ _ _ h v) hQ _ _ h v
      · have h := h.2
        have v := v.2
        intro e25
        have h := h e25
        have v := v e25
        obtain ⟨j, h⟩ := h
        refine ⟨j, ?_⟩
        have v := v j
        exact jcX12_step_123 (k150 := wX12_step_150 (wX12_step_246 Q) Q) (k150' := vX12_step_150 (vX12_step_246 Q') Q') (k150'' := wX12_step_150 (wX12_step_246 Q'') Q'') (fun _ h v => jcX12_step_150 (k246 := wX12_step_246 Q) (k246' := vX12_step_246 Q') (k246'' := wX12_step_246 Q'') (fun _ h v => jcX12_step_246 hQ _ h v) hQ _ h v) hQ _ _ h v
    · have h := h.2
      have v := v.2
      intro e26
      have h := h e26
      have v := v e26
      obtain ⟨j, h⟩ := h
      refine ⟨j, ?_⟩
      have v := v j
      exact jcX12_step_81 (k108 := wX12_step_108 (wX12_step_246 Q) Q) (k108' := vX12_step_108 (vX12_step_246 Q') Q') (k108'' := wX12_step_108 (wX12_step_246 Q'') Q'') (fun _ h v => jcX12_step_108 (k246 := wX12_step_246 Q) (k246' := vX12_step_246 Q') (k246'' := wX12_step_246 Q'') (fun _ h v => jcX12_step_246 hQ _ h v) hQ _ h v) hQ _ _ h v
  · have h := h.2
    have v := v.2
    intro e27
    have h := h e27
    have v := v e27
    intro μ49 e28
    have h := h μ49 e28
    have v := v μ49 e28
    exact jcX12_step_246 hQ _ h v
set_option maxRecDepth 100000 in
set_option maxHeartbeats 4000000 in
theorem jaX12_step_39 {Q Q' : km_S → Prop} (hQ : ∀ y0, Q y0 → Q' y0) : ∀ (μ : km_S), wX12_step_39 Q μ → vX12_step_39 Q' μ := by
  intro μ h
  unfold wX12_step_39 at h
  unfold vX12_step_39
  intro μ26 e1
  have h := h μ26 e1
  intro μ27 e2
  have h := h μ27 e2
  refine jaX12_byteAt ?_ _ _ h
  intro r29 μ28 h
  refine ⟨?_, ?_⟩
  · have h := h.1
    intro e3
    have h := h e3
    refine jaX12_isLetter ?_ _ _ h
    intro r32 μ31 h
    refine ⟨?_, ?_⟩
    · have h := h.1
      intro e4
      have h := h e4
      refine jaX12_isDigit ?_ _ _ h
      intro r35 μ34 h
      refine ⟨?_, ?_⟩
      · have h := h.1
        intro e5
        have h := h e5
        intro μ37 e6
        have h := h μ37 e6
        refine ⟨?_, ?_⟩
        · have h := h.1
          intro e7
          have h := h e7
          exact jaX12_step_222 (k227 := wX12_step_227 (wX12_step_246 Q) Q) (k227' := vX12_step_227 (vX12_step_246 Q') Q') (fun _ _ _ h => jaX12_step_227 (k246 := wX12_step_246 Q) (k246' := vX12_step_246 Q') (fun _ h => jaX12_step_246 hQ _ h) hQ _ _ _ h) hQ _ _ h
        · have h := h.2
          intro e8
          have h := h e8
          refine ⟨?_, ?_⟩
          · have h := h.1
            intro e9
            have h := h e9
            exact jaX12_step_222 (k227 := wX12_step_227 (wX12_step_246 Q) Q) (k227' := vX12_step_227 (vX12_step_246 Q') Q') (fun _ _ _ h => jaX12_step_227 (k246 := wX12_step_246 Q) (k246' := vX12_step_246 Q') (fun _ h => jaX12_step_246 hQ _ h) hQ _ _ _ h) hQ _ _ h
          · have h := h.2
            intro e10
            have h := h e10
            refine ⟨?_, ?_⟩
            · have h := h.1
              intro e11
              have h := h e11
              exact jaX12_step_222 (k227 := wX12_step_227 (wX12_step_246 Q) Q) (k227' := vX12_step_227 (vX12_step_246 Q') Q') (fun _ _ _ h => jaX12_step_227 (k246 := wX12_step_246 Q) (k246' := vX12_step_246 Q') (fun _ h => jaX12_step_246 hQ _ h) hQ _ _ _ h) hQ _ _ h
            · have h := h.2
              intro e12
              have h := h e12
              refine ⟨?_, ?_⟩
              · have h := h.1
                intro e13
                have h := h e13
                exact jaX12_step_222 (k227 := wX12_step_227 (wX12_step_246 Q) Q) (k227' := vX12_step_227 (vX12_step_246 Q') Q') (fun _ _ _ h => jaX12_step_227 (k246 := wX12_step_246 Q) (k246' := vX12_step_246 Q') (fun _ h => jaX12_step_246 hQ _ h) hQ _ _ _ h) hQ _ _ h
              · have h := h.2
                intro e14
                have h := h e14
                refine ⟨?_, ?_⟩
                · have h := h.1
                  intro e15
                  have h := h e15
                  exact jaX12_step_222 (k227 := wX12_step_227 (wX12_step_246 Q) Q) (k227' := vX12_step_227 (vX12_step_246 Q') Q') (fun _ _ _ h => jaX12_step_227 (k246 := wX12_step_246 Q) (k246' := vX12_step_246 Q') (fun _ h => jaX12_step_246 hQ _ h) hQ _ _ _ h) hQ _ _ h
                · have h := h.2
                  intro e16
                  have h := h e16
                  refine ⟨?_, ?_⟩
                  · have h := h.1
                    intro e17
                    have h := h e17
                    exact jaX12_step_222 (k227 := wX12_step_227 (wX12_step_246 Q) Q) (k227' := vX12_step_227 (vX12_step_246 Q') Q') (fun _ _ _ h => jaX12_step_227 (k246 := wX12_step_246 Q) (k246' := vX12_step_246 Q') (fun _ h => jaX12_step_246 hQ _ h) hQ _ _ _ h) hQ _ _ h
                  · have h := h.2
                    intro e18
                    have h := h e18
                    refine ⟨?_, ?_⟩
                    · have h := h.1
                      intro e19
                      have h := h e19
                      exact jaX12_step_222 (k227 := wX12_step_227 (wX12_step_246 Q) Q) (k227' := vX12_step_227 (vX12_step_246 Q') Q') (fun _ _ _ h => jaX12_step_227 (k246 := wX12_step_246 Q) (k246' := vX12_step_246 Q') (fun _ h => jaX12_step_246 hQ _ h) hQ _ _ _ h) hQ _ _ h
                    · have h := h.2
                      intro e20
                      have h := h e20
                      refine ⟨?_, ?_⟩
                      · have h := h.1
                        intro e21
                        have h := h e21
                        exact jaX12_step_222 (k227 := wX12_step_227 (wX12_step_246 Q) Q) (k227' := vX12_step_227 (vX12_step_246 Q') Q') (fun _ _ _ h => jaX12_step_227 (k246 := wX12_step_246 Q) (k246' := vX12_step_246 Q') (fun _ h => jaX12_step_246 hQ _ h) hQ _ _ _ h) hQ _ _ h
                      · have h := h.2
                        intro e22
                        have h := h e22
                        refine ⟨?_, ?_⟩
                        · have h := h.1
                          intro e23
                          have h := h e23
                          exact jaX12_step_227 (k246 := wX12_step_246 Q) (k246' := vX12_step_246 Q') (fun _ h => jaX12_step_246 hQ _ h) hQ _ _ _ h
                        · have h := h.2
                          intro e24
                          have h := h e24
                          exact jaX12_step_222 (k227 := wX12_step_227 (wX12_step_246 Q) Q) (k227' := vX12_step_227 (vX12_step_246 Q') Q') (fun _ _ _ h => jaX12_step_227 (k246 := wX12_step_246 Q) (k246' := vX12_step_246 Q') (fun _ h => jaX12_step_246 hQ _ h) hQ _ _ _ h) hQ _ _ h
      · have h := h.2
        intro e25
        have h := h e25
        obtain ⟨j, h⟩ := h
        intro j9
        exact jaX12_step_123 (k150 := wX12_step_150 (wX12_step_246 Q) Q) (k150' := vX12_step_150 (vX12_step_246 Q') Q') (fun _ h => jaX12_step_150 (k246 := wX12_step_246 Q) (k246' := vX12_step_246 Q') (fun _ h => jaX12_step_246 hQ _ h) hQ _ h) hQ _ j9 _ h
    · have h := h.2
      intro e26
      have h := h e26
      obtain ⟨j, h⟩ := h
      intro j9
      exact jaX12_step_81 (k108 := wX12_step_108 (wX12_step_246 Q) Q) (k108' := vX12_step_108 (vX12_step_246 Q') Q') (fun _ h => jaX12_step_108 (k246 := wX12_step_246 Q) (k246' := vX12_step_246 Q') (fun _ h => jaX12_step_246 hQ _ h) hQ _ h) hQ _ j9 _ h
  · have h := h.2
    intro e27
    have h := h e27
    intro μ49 e28
    have h := h μ49 e28
    exact jaX12_step_246 hQ _ h
set_option maxRecDepth 100000 in
set_option maxHeartbeats 4000000 in
theorem jfX12_step_39 {I : km_S → Prop} (W : gw_ I [60, 62, 63, 64, 65]) {Q : km_S → Prop} (hQ : ∀ y0, I y0 → Q y0) : ∀ (μ : km_S), I μ → vX12_step_39 Q μ := by
  intro μ i
  unfold vX12_step_39
  intro μ26 e1
  have iμ26 : I μ26 := by rw [e1]; exact ((W _ i) 64 (by decide)).1 _
  intro μ27 e2
  have iμ27 : I μ27 := by rw [e2]; exact ((W _ iμ26) 63 (by decide)).1 _
  refine jfX12_byteAt (I := I) (gw_sub W (by decide)) ?_ _ _ iμ27
  intro r29 μ28 iμ28
  refine ⟨?_, ?_⟩
  · intro e3
    refine jfX12_isLetter (I := I) (gw_sub W (by decide)) ?_ _ _ iμ28
    intro r32 μ31 iμ31
    refine ⟨?_, ?_⟩
    · intro e4
      refine jfX12_isDigit (I := I) (gw_sub W (by decide)) ?_ _ _ iμ31
      intro r35 μ34 iμ34
      refine ⟨?_, ?_⟩
      · intro e5
        intro μ37 e6
        have iμ37 : I μ37 := by rw [e6]; exact ((W _ iμ34) 60 (by decide)).1 _
        refine ⟨?_, ?_⟩
        · intro e7
          exact jfX12_step_222 (I := I) (gw_sub W (by decide)) (k227 := vX12_step_227 (vX12_step_246 Q) Q) (fun _ _ _ i => jfX12_step_227 (I := I) (gw_sub W (by decide)) (k246 := vX12_step_246 Q) (fun _ i => jfX12_step_246 (I := I) (gw_sub W (by decide)) hQ _ i) hQ _ _ _ i) hQ _ _ iμ37
        · intro e8
          refine ⟨?_, ?_⟩
          · intro e9
            exact jfX12_step_222 (I := I) (gw_sub W (by decide)) (k227 := vX12_step_227 (vX12_step_246 Q) Q) (fun _ _ _ i => jfX12_step_227 (I := I) (gw_sub W (by decide)) (k246 := vX12_step_246 Q) (fun _ i => jfX12_step_246 (I := I) (gw_sub W (by decide)) hQ _ i) hQ _ _ _ i) hQ _ _ iμ37
          · intro e10
            refine ⟨?_, ?_⟩
            · intro e11
              exact jfX12_step_222 (I := I) (gw_sub W (by decide)) (k227 := vX12_step_227 (vX12_step_246 Q) Q) (fun _ _ _ i => jfX12_step_227 (I := I) (gw_sub W (by decide)) (k246 := vX12_step_246 Q) (fun _ i => jfX12_step_246 (I := I) (gw_sub W (by decide)) hQ _ i) hQ _ _ _ i) hQ _ _ iμ37
            · intro e12
              refine ⟨?_, ?_⟩
              · intro e13
                exact jfX12_step_222 (I := I) (gw_sub W (by decide)) (k227 := vX12_step_227 (vX12_step_246 Q) Q) (fun _ _ _ i => jfX12_step_227 (I := I) (gw_sub W (by decide)) (k246 := vX12_step_246 Q) (fun _ i => jfX12_step_246 (I := I) (gw_sub W (by decide)) hQ _ i) hQ _ _ _ i) hQ _ _ iμ37
              · intro e14
                refine ⟨?_, ?_⟩
                · intro e15
                  exact jfX12_step_222 (I := I) (gw_sub W (by decide)) (k227 := vX12_step_227 (vX12_step_246 Q) Q) (fun _ _ _ i => jfX12_step_227 (I := I) (gw_sub W (by decide)) (k246 := vX12_step_246 Q) (fun _ i => jfX12_step_246 (I := I) (gw_sub W (by decide)) hQ _ i) hQ _ _ _ i) hQ _ _ iμ37
                · intro e16
                  refine ⟨?_, ?_⟩
                  · intro e17
                    exact jfX12_step_222 (I := I) (gw_sub W (by decide)) (k227 := vX12_step_227 (vX12_step_246 Q) Q) (fun _ _ _ i => jfX12_step_227 (I := I) (gw_sub W (by decide)) (k246 := vX12_step_246 Q) (fun _ i => jfX12_step_246 (I := I) (gw_sub W (by decide)) hQ _ i) hQ _ _ _ i) hQ _ _ iμ37
                  · intro e18
                    refine ⟨?_, ?_⟩
                    · intro e19
                      exact jfX12_step_222 (I := I) (gw_sub W (by decide)) (k227 := vX12_step_227 (vX12_step_246 Q) Q) (fun _ _ _ i => jfX12_step_227 (I := I) (gw_sub W (by decide)) (k246 := vX12_step_246 Q) (fun _ i => jfX12_step_246 (I := I) (gw_sub W (by decide)) hQ _ i) hQ _ _ _ i) hQ _ _ iμ37
                    · intro e20
                      refine ⟨?_, ?_⟩
                      · intro e21
                        exact jfX12_step_222 (I := I) (gw_sub W (by decide)) (k227 := vX12_step_227 (vX12_step_246 Q) Q) (fun _ _ _ i => jfX12_step_227 (I := I) (gw_sub W (by decide)) (k246 := vX12_step_246 Q) (fun _ i => jfX12_step_246 (I := I) (gw_sub W (by decide)) hQ _ i) hQ _ _ _ i) hQ _ _ iμ37
                      · intro e22
                        refine ⟨?_, ?_⟩
                        · intro e23
                          exact jfX12_step_227 (I := I) (gw_sub W (by decide)) (k246 := vX12_step_246 Q) (fun _ i => jfX12_step_246 (I := I) (gw_sub W (by decide)) hQ _ i) hQ _ _ _ iμ37
                        · intro e24
                          exact jfX12_step_222 (I := I) (gw_sub W (by decide)) (k227 := vX12_step_227 (vX12_step_246 Q) Q) (fun _ _ _ i => jfX12_step_227 (I := I) (gw_sub W (by decide)) (k246 := vX12_step_246 Q) (fun _ i => jfX12_step_246 (I := I) (gw_sub W (by decide)) hQ _ i) hQ _ _ _ i) hQ _ _ iμ37
      · intro e25
        intro j
        exact jfX12_step_123 (I := I) (gw_sub W (by decide)) (k150 := vX12_step_150 (vX12_step_246 Q) Q) (fun _ i => jfX12_step_150 (I := I) (gw_sub W (by decide)) (k246 := vX12_step_246 Q) (fun _ i => jfX12_step_246 (I := I) (gw_sub W (by decide)) hQ _ i) hQ _ i) hQ _ _ iμ34
    · intro e26
      intro j
      exact jfX12_step_81 (I := I) (gw_sub W (by decide)) (k108 := vX12_step_108 (vX12_step_246 Q) Q) (fun _ i => jfX12_step_108 (I := I) (gw_sub W (by decide)) (k246 := vX12_step_246 Q) (fun _ i => jfX12_step_246 (I := I) (gw_sub W (by decide)) hQ _ i) hQ _ i) hQ _ _ iμ31
  · intro e27
    intro μ49 e28
    have iμ49 : I μ49 := by rw [e28]; exact ((W _ iμ28) 62 (by decide)).1 _
    exact jfX12_step_246 (I := I) (gw_sub W (by decide)) hQ _ iμ49
def vX12_step (μ : km_S) (Q : km_S → Prop) : Prop := ∀ j, vX12_step_0 (vX12_step_39 Q) Q j μ
set_option maxRecDepth 100000 in
set_option maxHeartbeats 4000000 in
theorem jcX12_step {Q Q' Q'' : km_S → Prop} (hQ : ∀ y0, Q y0 → Q' y0 → Q'' y0) : ∀ (μ : km_S), wX12_step μ Q → vX12_step μ Q' → wX12_step μ Q'' := by
  intro μ h v
  unfold wX12_step at h
  unfold vX12_step at v
  unfold wX12_step
  obtain ⟨j, h⟩ := h
  refine ⟨j, ?_⟩
  have v := v j
  exact jcX12_step_0 (k39 := wX12_step_39 Q) (k39' := vX12_step_39 Q') (k39'' := wX12_step_39 Q'') (fun _ h v => jcX12_step_39 hQ _ h v) hQ _ _ h v
set_option maxRecDepth 100000 in
set_option maxHeartbeats 4000000 in
theorem jaX12_step {Q Q' : km_S → Prop} (hQ : ∀ y0, Q y0 → Q' y0) : ∀ (μ : km_S), wX12_step μ Q → vX12_step μ Q' := by
  intro μ h
  unfold wX12_step at h
  unfold vX12_step
  obtain ⟨j, h⟩ := h
  intro j9
  exact jaX12_step_0 (k39 := wX12_step_39 Q) (k39' := vX12_step_39 Q') (fun _ h => jaX12_step_39 hQ _ h) hQ _ j9 _ h
set_option maxRecDepth 100000 in
set_option maxHeartbeats 4000000 in
theorem jfX12_step {I : km_S → Prop} (W : gw_ I [60, 62, 63, 64, 65]) {Q : km_S → Prop} (hQ : ∀ y0, I y0 → Q y0) : ∀ (μ : km_S), I μ → vX12_step μ Q := by
  intro μ i
  unfold vX12_step
  intro j
  exact jfX12_step_0 (I := I) (gw_sub W (by decide)) (k39 := vX12_step_39 Q) (fun _ i => jfX12_step_39 (I := I) (gw_sub W (by decide)) hQ _ i) hQ _ _ i
end
section
def vX12_value (l1 : Int32) (l2 : Int32) (l3 : Int32) (μ : km_S) (Q : Int32 → km_S → Prop) : Prop := ∀ v1, v1 = l1 → ((v1 = 0 → vp_in l2 400 → Q (km_a μ 35 l2.toNatClampNeg) μ) ∧ ((v1 = 1 → vp_in l2 400 → Q (km_a μ 36 l2.toNatClampNeg) μ) ∧ ((v1 = 2 → vp_in l2 400 → Q (km_a μ 37 l2.toNatClampNeg) μ) ∧ ((v1 = 3 → Q ((km_i μ 2) - (km_i μ 2) / 24 * 24) μ) ∧ ((v1 = 4 → Q ((km_i μ 2) / 24) μ) ∧ ((v1 = 5 → Q l3 μ) ∧ (¬ v1 = 0 → ¬ v1 = 1 → ¬ v1 = 2 → ¬ v1 = 3 → ¬ v1 = 4 → ¬ v1 = 5 → vp_in l2 400 → Q (km_a μ 41 l2.toNatClampNeg) μ)))))))
set_option maxRecDepth 100000 in
set_option maxHeartbeats 4000000 in
theorem jcX12_value {Q Q' Q'' : Int32 → km_S → Prop} (hQ : ∀ y0 y1, Q y0 y1 → Q' y0 y1 → Q'' y0 y1) : ∀ (l1 : Int32) (l2 : Int32) (l3 : Int32) (μ : km_S), wX12_value l1 l2 l3 μ Q → vX12_value l1 l2 l3 μ Q' → wX12_value l1 l2 l3 μ Q'' := by
  intro l1 l2 l3 μ h v
  unfold wX12_value at h
  unfold vX12_value at v
  unfold wX12_value
  intro v1 e1
  have h := h v1 e1
  have v := v v1 e1
  refine ⟨?_, ?_⟩
  · have h := h.1
    have v := v.1
    intro e2
    have h := h e2
    have v := v e2
    refine ⟨h.1, ?_⟩
    have v := v h.1
    have h := h.2
    exact hQ _ _ h v
  · have h := h.2
    have v := v.2
    refine ⟨?_, ?_⟩
    · have h := h.1
      have v := v.1
      intro e4
      have h := h e4
      have v := v e4
      refine ⟨h.1, ?_⟩
      have v := v h.1
      have h := h.2
      exact hQ _ _ h v
    · have h := h.2
      have v := v.2
      refine ⟨?_, ?_⟩
      · have h := h.1
        have v := v.1
        intro e6
        have h := h e6
        have v := v e6
        refine ⟨h.1, ?_⟩
        have v := v h.1
        have h := h.2
        exact hQ _ _ h v
      · have h := h.2
        have v := v.2
        refine ⟨?_, ?_⟩
        · have h := h.1
          have v := v.1
          intro e8
          have h := h e8
          have v := v e8
          exact hQ _ _ h v
        · have h := h.2
          have v := v.2
          refine ⟨?_, ?_⟩
          · have h := h.1
            have v := v.1
            intro e9
            have h := h e9
            have v := v e9
            exact hQ _ _ h v
          · have h := h.2
            have v := v.2
            refine ⟨?_, ?_⟩
            · have h := h.1
              have v := v.1
              intro e10
              have h := h e10
              have v := v e10
              exact hQ _ _ h v
            · have h := h.2
              have v := v.2
              intro e11 e12 e13 e14 e15 e16
              have h := h e11 e12 e13 e14 e15 e16
              have v := v e11 e12 e13 e14 e15 e16
              refine ⟨h.1, ?_⟩
              have v := v h.1
              have h := h.2
              exact hQ _ _ h v
set_option maxRecDepth 100000 in
set_option maxHeartbeats 4000000 in
theorem jaX12_value {Q Q' : Int32 → km_S → Prop} (hQ : ∀ y0 y1, Q y0 y1 → Q' y0 y1) : ∀ (l1 : Int32) (l2 : Int32) (l3 : Int32) (μ : km_S), wX12_value l1 l2 l3 μ Q → vX12_value l1 l2 l3 μ Q' := by
  intro l1 l2 l3 μ h
  unfold wX12_value at h
  unfold vX12_value
  intro v1 e1
  have h := h v1 e1
  refine ⟨?_, ?_⟩
  · have h := h.1
    intro e2
    have h := h e2
    intro e3
    have h := h.2
    exact hQ _ _ h
  · have h := h.2
    refine ⟨?_, ?_⟩
    · have h := h.1
      intro e4
      have h := h e4
      intro e5
      have h := h.2
      exact hQ _ _ h
    · have h := h.2
      refine ⟨?_, ?_⟩
      · have h := h.1
        intro e6
        have h := h e6
        intro e7
        have h := h.2
        exact hQ _ _ h
      · have h := h.2
        refine ⟨?_, ?_⟩
        · have h := h.1
          intro e8
          have h := h e8
          exact hQ _ _ h
        · have h := h.2
          refine ⟨?_, ?_⟩
          · have h := h.1
            intro e9
            have h := h e9
            exact hQ _ _ h
          · have h := h.2
            refine ⟨?_, ?_⟩
            · have h := h.1
              intro e10
              have h := h e10
              exact hQ _ _ h
            · have h := h.2
              intro e11 e12 e13 e14 e15 e16
              have h := h e11 e12 e13 e14 e15 e16
              intro e17
              have h := h.2
              exact hQ _ _ h
set_option maxRecDepth 100000 in
set_option maxHeartbeats 4000000 in
theorem jfX12_value {I : km_S → Prop} (W : gw_ I []) {Q : Int32 → km_S → Prop} (hQ : ∀ y0 y1, I y1 → Q y0 y1) : ∀ (l1 : Int32) (l2 : Int32) (l3 : Int32) (μ : km_S), I μ → vX12_value l1 l2 l3 μ Q := by
  intro l1 l2 l3 μ i
  unfold vX12_value
  intro v1 e1
  refine ⟨?_, ?_⟩
  · intro e2
    intro e3
    exact hQ _ _ i
  · refine ⟨?_, ?_⟩
    · intro e4
      intro e5
      exact hQ _ _ i
    · refine ⟨?_, ?_⟩
      · intro e6
        intro e7
        exact hQ _ _ i
      · refine ⟨?_, ?_⟩
        · intro e8
          exact hQ _ _ i
        · refine ⟨?_, ?_⟩
          · intro e9
            exact hQ _ _ i
          · refine ⟨?_, ?_⟩
            · intro e10
              exact hQ _ _ i
            · intro e11 e12 e13 e14 e15 e16
              intro e17
              exact hQ _ _ i
def vX12_two (l0 : Int32) (l1 : Int32) (l2 : Int32) (μ : km_S) (Q : Int32 → km_S → Prop) : Prop := ∀ v1, v1 = l0 → ((v1 = 1 → Q (l1 + l2) μ) ∧ ((v1 = 2 → Q (l1 - l2) μ) ∧ ((v1 = 3 → Q (l1 * l2) μ) ∧ ((v1 = 4 → ((¬ l2 = 0 → ((¬ l2 = (-1) → ¬ l2 = 0 → Q (l1 / l2) μ) ∧ (l2 = (-1) → Q (-l1) μ))) ∧ (l2 = 0 → Q 0 μ))) ∧ ((v1 = 5 → ((l2 ≤ l1 → Q 0 μ) ∧ (¬ (l2 ≤ l1) → Q 1 μ))) ∧ ((v1 = 6 → ((¬ l1 = l2 → Q 0 μ) ∧ (l1 = l2 → Q 1 μ))) ∧ ((v1 = 7 → ((l1 = 0 → Q 0 μ) ∧ (¬ (l1 = 0) → ((l2 = 0 → Q 0 μ) ∧ (¬ (l2 = 0) → Q 1 μ))))) ∧ (¬ v1 = 1 → ¬ v1 = 2 → ¬ v1 = 3 → ¬ v1 = 4 → ¬ v1 = 5 → ¬ v1 = 6 → ¬ v1 = 7 → ((¬ l1 = 0 → Q 1 μ) ∧ (l1 = 0 → ((l2 = 0 → Q 0 μ) ∧ (¬ (l2 = 0) → Q 1 μ))))))))))))
set_option maxRecDepth 100000 in
set_option maxHeartbeats 4000000 in
theorem jcX12_two {Q Q' Q'' : Int32 → km_S → Prop} (hQ : ∀ y0 y1, Q y0 y1 → Q' y0 y1 → Q'' y0 y1) : ∀ (l0 : Int32) (l1 : Int32) (l2 : Int32) (μ : km_S), wX12_two l0 l1 l2 μ Q → vX12_two l0 l1 l2 μ Q' → wX12_two l0 l1 l2 μ Q'' := by
  intro l0 l1 l2 μ h v
  unfold wX12_two at h
  unfold vX12_two at v
  unfold wX12_two
  intro v1 e1
  have h := h v1 e1
  have v := v v1 e1
  refine ⟨?_, ?_⟩
  · have h := h.1
    have v := v.1
    intro e2
    have h := h e2
    have v := v e2
    exact hQ _ _ h v
  · have h := h.2
    have v := v.2
    refine ⟨?_, ?_⟩
    · have h := h.1
      have v := v.1
      intro e3
      have h := h e3
      have v := v e3
      exact hQ _ _ h v
    · have h := h.2
      have v := v.2
      refine ⟨?_, ?_⟩
      · have h := h.1
        have v := v.1
        intro e4
        have h := h e4
        have v := v e4
        exact hQ _ _ h v
      · have h := h.2
        have v := v.2
        refine ⟨?_, ?_⟩
        · have h := h.1
          have v := v.1
          intro e5
          have h := h e5
          have v := v e5
          refine ⟨?_, ?_⟩
          · have h := h.1
            have v := v.1
            intro e6
            have h := h e6
            have v := v e6
            refine ⟨?_, ?_⟩
            · have h := h.1
              have v := v.1
              intro e7
              have h := h e7
              have v := v e7
              refine ⟨h.1, ?_⟩
              have v := v h.1
              have h := h.2
              exact hQ _ _ h v
            · have h := h.2
              have v := v.2
              intro e9
              have h := h e9
              have v := v e9
              exact hQ _ _ h v
          · have h := h.2
            have v := v.2
            intro e10
            have h := h e10
            have v := v e10
            exact hQ _ _ h v
        · have h := h.2
          have v := v.2
          refine ⟨?_, ?_⟩
          · have h := h.1
            have v := v.1
            intro e11
            have h := h e11
            have v := v e11
            refine ⟨?_, ?_⟩
            · have h := h.1
              have v := v.1
              intro e12
              have h := h e12
              have v := v e12
              exact hQ _ _ h v
            · have h := h.2
              have v := v.2
              intro e13
              have h := h e13
              have v := v e13
              exact hQ _ _ h v
          · have h := h.2
            have v := v.2
            refine ⟨?_, ?_⟩
            · have h := h.1
              have v := v.1
              intro e14
              have h := h e14
              have v := v e14
              refine ⟨?_, ?_⟩
              · have h := h.1
                have v := v.1
                intro e15
                have h := h e15
                have v := v e15
                exact hQ _ _ h v
              · have h := h.2
                have v := v.2
                intro e16
                have h := h e16
                have v := v e16
                exact hQ _ _ h v
            · have h := h.2
              have v := v.2
              refine ⟨?_, ?_⟩
              · have h := h.1
                have v := v.1
                intro e17
                have h := h e17
                have v := v e17
                refine ⟨?_, ?_⟩
                · have h := h.1
                  have v := v.1
                  intro e18
                  have h := h e18
                  have v := v e18
                  exact hQ _ _ h v
                · have h := h.2
                  have v := v.2
                  intro e19
                  have h := h e19
                  have v := v e19
                  refine ⟨?_, ?_⟩
                  · have h := h.1
                    have v := v.1
                    intro e20
                    have h := h e20
                    have v := v e20
                    exact hQ _ _ h v
                  · have h := h.2
                    have v := v.2
                    intro e21
                    have h := h e21
                    have v := v e21
                    exact hQ _ _ h v
              · have h := h.2
                have v := v.2
                intro e22 e23 e24 e25 e26 e27 e28
                have h := h e22 e23 e24 e25 e26 e27 e28
                have v := v e22 e23 e24 e25 e26 e27 e28
                refine ⟨?_, ?_⟩
                · have h := h.1
                  have v := v.1
                  intro e29
                  have h := h e29
                  have v := v e29
                  exact hQ _ _ h v
                · have h := h.2
                  have v := v.2
                  intro e30
                  have h := h e30
                  have v := v e30
                  refine ⟨?_, ?_⟩
                  · have h := h.1
                    have v := v.1
                    intro e31
                    have h := h e31
                    have v := v e31
                    exact hQ _ _ h v
                  · have h := h.2
                    have v := v.2
                    intro e32
                    have h := h e32
                    have v := v e32
                    exact hQ _ _ h v
set_option maxRecDepth 100000 in
set_option maxHeartbeats 4000000 in
theorem jaX12_two {Q Q' : Int32 → km_S → Prop} (hQ : ∀ y0 y1, Q y0 y1 → Q' y0 y1) : ∀ (l0 : Int32) (l1 : Int32) (l2 : Int32) (μ : km_S), wX12_two l0 l1 l2 μ Q → vX12_two l0 l1 l2 μ Q' := by
  intro l0 l1 l2 μ h
  unfold wX12_two at h
  unfold vX12_two
  intro v1 e1
  have h := h v1 e1
  refine ⟨?_, ?_⟩
  · have h := h.1
    intro e2
    have h := h e2
    exact hQ _ _ h
  · have h := h.2
    refine ⟨?_, ?_⟩
    · have h := h.1
      intro e3
      have h := h e3
      exact hQ _ _ h
    · have h := h.2
      refine ⟨?_, ?_⟩
      · have h := h.1
        intro e4
        have h := h e4
        exact hQ _ _ h
      · have h := h.2
        refine ⟨?_, ?_⟩
        · have h := h.1
          intro e5
          have h := h e5
          refine ⟨?_, ?_⟩
          · have h := h.1
            intro e6
            have h := h e6
            refine ⟨?_, ?_⟩
            · have h := h.1
              intro e7
              have h := h e7
              intro e8
              have h := h.2
              exact hQ _ _ h
            · have h := h.2
              intro e9
              have h := h e9
              exact hQ _ _ h
          · have h := h.2
            intro e10
            have h := h e10
            exact hQ _ _ h
        · have h := h.2
          refine ⟨?_, ?_⟩
          · have h := h.1
            intro e11
            have h := h e11
            refine ⟨?_, ?_⟩
            · have h := h.1
              intro e12
              have h := h e12
              exact hQ _ _ h
            · have h := h.2
              intro e13
              have h := h e13
              exact hQ _ _ h
          · have h := h.2
            refine ⟨?_, ?_⟩
            · have h := h.1
              intro e14
              have h := h e14
              refine ⟨?_, ?_⟩
              · have h := h.1
                intro e15
                have h := h e15
                exact hQ _ _ h
              · have h := h.2
                intro e16
                have h := h e16
                exact hQ _ _ h
            · have h := h.2
              refine ⟨?_, ?_⟩
              · have h := h.1
                intro e17
                have h := h e17
                refine ⟨?_, ?_⟩
                · have h := h.1
                  intro e18
                  have h := h e18
                  exact hQ _ _ h
                · have h := h.2
                  intro e19
                  have h := h e19
                  refine ⟨?_, ?_⟩
                  · have h := h.1
                    intro e20
                    have h := h e20
                    exact hQ _ _ h
                  · have h := h.2
                    intro e21
                    have h := h e21
                    exact hQ _ _ h
              · have h := h.2
                intro e22 e23 e24 e25 e26 e27 e28
                have h := h e22 e23 e24 e25 e26 e27 e28
                refine ⟨?_, ?_⟩
                · have h := h.1
                  intro e29
                  have h := h e29
                  exact hQ _ _ h
                · have h := h.2
                  intro e30
                  have h := h e30
                  refine ⟨?_, ?_⟩
                  · have h := h.1
                    intro e31
                    have h := h e31
                    exact hQ _ _ h
                  · have h := h.2
                    intro e32
                    have h := h e32
                    exact hQ _ _ h
set_option maxRecDepth 100000 in
set_option maxHeartbeats 4000000 in
theorem jfX12_two {I : km_S → Prop} (W : gw_ I []) {Q : Int32 → km_S → Prop} (hQ : ∀ y0 y1, I y1 → Q y0 y1) : ∀ (l0 : Int32) (l1 : Int32) (l2 : Int32) (μ : km_S), I μ → vX12_two l0 l1 l2 μ Q := by
  intro l0 l1 l2 μ i
  unfold vX12_two
  intro v1 e1
  refine ⟨?_, ?_⟩
  · intro e2
    exact hQ _ _ i
  · refine ⟨?_, ?_⟩
    · intro e3
      exact hQ _ _ i
    · refine ⟨?_, ?_⟩
      · intro e4
        exact hQ _ _ i
      · refine ⟨?_, ?_⟩
        · intro e5
          refine ⟨?_, ?_⟩
          · intro e6
            refine ⟨?_, ?_⟩
            · intro e7
              intro e8
              exact hQ _ _ i
            · intro e9
              exact hQ _ _ i
          · intro e10
            exact hQ _ _ i
        · refine ⟨?_, ?_⟩
          · intro e11
            refine ⟨?_, ?_⟩
            · intro e12
              exact hQ _ _ i
            · intro e13
              exact hQ _ _ i
          · refine ⟨?_, ?_⟩
            · intro e14
              refine ⟨?_, ?_⟩
              · intro e15
                exact hQ _ _ i
              · intro e16
                exact hQ _ _ i
            · refine ⟨?_, ?_⟩
              · intro e17
                refine ⟨?_, ?_⟩
                · intro e18
                  exact hQ _ _ i
                · intro e19
                  refine ⟨?_, ?_⟩
                  · intro e20
                    exact hQ _ _ i
                  · intro e21
                    exact hQ _ _ i
              · intro e22 e23 e24 e25 e26 e27 e28
                refine ⟨?_, ?_⟩
                · intro e29
                  exact hQ _ _ i
                · intro e30
                  refine ⟨?_, ?_⟩
                  · intro e31
                    exact hQ _ _ i
                  · intro e32
                    exact hQ _ _ i
def vX12_told_187 (k8 : Int32 → Int32 → Int32 → Int32 → km_S → Prop) (Q : Int32 → km_S → Prop) (l2 : Int32) (l3 : Int32) (l4 : Int32) (l5 : Int32) (μ : km_S) : Prop := ∀ v1 : Int32, v1 = l5 + 1 → k8 l2 l3 l4 v1 μ
set_option maxRecDepth 100000 in
set_option maxHeartbeats 4000000 in
theorem jcX12_told_187 {k8 k8' k8'' : Int32 → Int32 → Int32 → Int32 → km_S → Prop} (hk8 : ∀ y0 y1 y2 y3 y4, k8 y0 y1 y2 y3 y4 → k8' y0 y1 y2 y3 y4 → k8'' y0 y1 y2 y3 y4) {Q Q' Q'' : Int32 → km_S → Prop} (hQ : ∀ y0 y1, Q y0 y1 → Q' y0 y1 → Q'' y0 y1) : ∀ (l2 : Int32) (l3 : Int32) (l4 : Int32) (l5 : Int32) (μ : km_S), wX12_told_187 k8 Q l2 l3 l4 l5 μ → vX12_told_187 k8' Q' l2 l3 l4 l5 μ → wX12_told_187 k8'' Q'' l2 l3 l4 l5 μ := by
  intro l2 l3 l4 l5 μ h v
  unfold wX12_told_187 at h
  unfold vX12_told_187 at v
  unfold wX12_told_187
  intro v1 e1
  have h := h v1 e1
  have v := v v1 e1
  exact hk8 _ _ _ _ _ h v
set_option maxRecDepth 100000 in
set_option maxHeartbeats 4000000 in
theorem jaX12_told_187 {k8 k8' : Int32 → Int32 → Int32 → Int32 → km_S → Prop} (hk8 : ∀ y0 y1 y2 y3 y4, k8 y0 y1 y2 y3 y4 → k8' y0 y1 y2 y3 y4) {Q Q' : Int32 → km_S → Prop} (hQ : ∀ y0 y1, Q y0 y1 → Q' y0 y1) : ∀ (l2 : Int32) (l3 : Int32) (l4 : Int32) (l5 : Int32) (μ : km_S), wX12_told_187 k8 Q l2 l3 l4 l5 μ → vX12_told_187 k8' Q' l2 l3 l4 l5 μ := by
  intro l2 l3 l4 l5 μ h
  unfold wX12_told_187 at h
  unfold vX12_told_187
  intro v1 e1
  have h := h v1 e1
  exact hk8 _ _ _ _ _ h
set_option maxRecDepth 100000 in
set_option maxHeartbeats 4000000 in
theorem jfX12_told_187 {I : km_S → Prop} (W : gw_ I []) {k8 : Int32 → Int32 → Int32 → Int32 → km_S → Prop} (hk8 : ∀ y0 y1 y2 y3 y4, I y4 → k8 y0 y1 y2 y3 y4) {Q : Int32 → km_S → Prop} (hQ : ∀ y0 y1, I y1 → Q y0 y1) : ∀ (l2 : Int32) (l3 : Int32) (l4 : Int32) (l5 : Int32) (μ : km_S), I μ → vX12_told_187 k8 Q l2 l3 l4 l5 μ := by
  intro l2 l3 l4 l5 μ i
  unfold vX12_told_187
  intro v1 e1
  exact hk8 _ _ _ _ _ i
def vX12_told_137 (k187 : Int32 → Int32 → Int32 → Int32 → km_S → Prop) (Q : Int32 → km_S → Prop) (l2 : Int32) (l3 : Int32) (l4 : Int32) (l5 : Int32) (s0 : Int32) (s1 : Int32) (μ : km_S) : Prop := vp_in s1 200 → ∀ μ3, μ3 = km_sa μ 57 s1.toNatClampNeg s0 → k187 l2 l3 l4 l5 μ3
set_option maxRecDepth 100000 in
set_option maxHeartbeats 4000000 in
theorem jcX12_told_137 {k187 k187' k187'' : Int32 → Int32 → Int32 → Int32 → km_S → Prop} (hk187 : ∀ y0 y1 y2 y3 y4, k187 y0 y1 y2 y3 y4 → k187' y0 y1 y2 y3 y4 → k187'' y0 y1 y2 y3 y4) {Q Q' Q'' : Int32 → km_S → Prop} (hQ : ∀ y0 y1, Q y0 y1 → Q' y0 y1 → Q'' y0 y1) : ∀ (l2 : Int32) (l3 : Int32) (l4 : Int32) (l5 : Int32) (s0 : Int32) (s1 : Int32) (μ : km_S), wX12_told_137 k187 Q l2 l3 l4 l5 s0 s1 μ → vX12_told_137 k187' Q' l2 l3 l4 l5 s0 s1 μ → wX12_told_137 k187'' Q'' l2 l3 l4 l5 s0 s1 μ := by
  intro l2 l3 l4 l5 s0 s1 μ h v
  unfold wX12_told_137 at h
  unfold vX12_told_137 at v
  unfold wX12_told_137
  refine ⟨h.1, ?_⟩
  have v := v h.1
  have h := h.2
  intro μ3 e2
  have h := h μ3 e2
  have v := v μ3 e2
  exact hk187 _ _ _ _ _ h v
set_option maxRecDepth 100000 in
set_option maxHeartbeats 4000000 in
theorem jaX12_told_137 {k187 k187' : Int32 → Int32 → Int32 → Int32 → km_S → Prop} (hk187 : ∀ y0 y1 y2 y3 y4, k187 y0 y1 y2 y3 y4 → k187' y0 y1 y2 y3 y4) {Q Q' : Int32 → km_S → Prop} (hQ : ∀ y0 y1, Q y0 y1 → Q' y0 y1) : ∀ (l2 : Int32) (l3 : Int32) (l4 : Int32) (l5 : Int32) (s0 : Int32) (s1 : Int32) (μ : km_S), wX12_told_137 k187 Q l2 l3 l4 l5 s0 s1 μ → vX12_told_137 k187' Q' l2 l3 l4 l5 s0 s1 μ := by
  intro l2 l3 l4 l5 s0 s1 μ h
  unfold wX12_told_137 at h
  unfold vX12_told_137
  intro e1
  have h := h.2
  intro μ3 e2
  have h := h μ3 e2
  exact hk187 _ _ _ _ _ h
set_option maxRecDepth 100000 in
set_option maxHeartbeats 4000000 in
theorem jfX12_told_137 {I : km_S → Prop} (W : gw_ I [57]) {k187 : Int32 → Int32 → Int32 → Int32 → km_S → Prop} (hk187 : ∀ y0 y1 y2 y3 y4, I y4 → k187 y0 y1 y2 y3 y4) {Q : Int32 → km_S → Prop} (hQ : ∀ y0 y1, I y1 → Q y0 y1) : ∀ (l2 : Int32) (l3 : Int32) (l4 : Int32) (l5 : Int32) (s0 : Int32) (s1 : Int32) (μ : km_S), I μ → vX12_told_137 k187 Q l2 l3 l4 l5 s0 s1 μ := by
  intro l2 l3 l4 l5 s0 s1 μ i
  unfold vX12_told_137
  intro e1
  intro μ3 e2
  have iμ3 : I μ3 := by rw [e2]; exact ((W _ i) 57 (by decide)).2.1 _ _
  exact hk187 _ _ _ _ _ iμ3
def vX12_told_193 (Q : Int32 → km_S → Prop) (μ : km_S) : Prop := Q (km_a μ 57 (Int32.toNatClampNeg 0)) μ
set_option maxRecDepth 100000 in
set_option maxHeartbeats 4000000 in
theorem jcX12_told_193 {Q Q' Q'' : Int32 → km_S → Prop} (hQ : ∀ y0 y1, Q y0 y1 → Q' y0 y1 → Q'' y0 y1) : ∀ (μ : km_S), wX12_told_193 Q μ → vX12_told_193 Q' μ → wX12_told_193 Q'' μ := by
  intro μ h v
  unfold wX12_told_193 at h
  unfold vX12_told_193 at v
  unfold wX12_told_193
  exact hQ _ _ h v
set_option maxRecDepth 100000 in
set_option maxHeartbeats 4000000 in
theorem jaX12_told_193 {Q Q' : Int32 → km_S → Prop} (hQ : ∀ y0 y1, Q y0 y1 → Q' y0 y1) : ∀ (μ : km_S), wX12_told_193 Q μ → vX12_told_193 Q' μ := by
  intro μ h
  unfold wX12_told_193 at h
  unfold vX12_told_193
  exact hQ _ _ h
set_option maxRecDepth 100000 in
set_option maxHeartbeats 4000000 in
theorem jfX12_told_193 {I : km_S → Prop} (W : gw_ I []) {Q : Int32 → km_S → Prop} (hQ : ∀ y0 y1, I y1 → Q y0 y1) : ∀ (μ : km_S), I μ → vX12_told_193 Q μ := by
  intro μ i
  unfold vX12_told_193
  exact hQ _ _ i
def vX12_told_8 (k193 : km_S → Prop) (Q : Int32 → km_S → Prop) : Nat → Int32 → Int32 → Int32 → Int32 → km_S → Prop
  | 0, _, _, _, _, _ => True
  | n + 1, l2, l3, l4, l5, μ => ((l2 ≤ l5 → k193 μ) ∧ (¬ (l2 ≤ l5) → vp_in l5 5400 → ∀ v6, v6 = km_a μ 56 l5.toNatClampNeg → ((¬ v6 = 0 → ((v6 < 20 → ((¬ v6 = 9 → ∀ μ10, μ10 = km_si μ 68 ((km_i μ 68) - 1) → vp_in ((km_i μ10 68) - 1) 200 → vp_in (km_i μ10 68) 200 → vX12_two v6 (km_a μ10 57 ((km_i μ10 68) - 1).toNatClampNeg) (km_a μ10 57 (km_i μ10 68).toNatClampNeg) μ10 (fun r14 μ13 => vp_in ((km_i μ10 68) - 1) 200 → ∀ μ16, μ16 = km_sa μ13 57 ((km_i μ10 68) - 1).toNatClampNeg r14 → vX12_told_187 (vX12_told_8 k193 Q n) Q l2 l3 l4 l5 μ16)) ∧ (v6 = 9 → vp_in ((km_i μ 68) - 1) 200 → ((¬ (km_a μ 57 ((km_i μ 68) - 1).toNatClampNeg) = 0 → vX12_told_137 (vX12_told_187 (vX12_told_8 k193 Q n) Q) Q l2 l3 l4 l5 0 ((km_i μ 68) - 1) μ) ∧ ((km_a μ 57 ((km_i μ 68) - 1).toNatClampNeg) = 0 → vX12_told_137 (vX12_told_187 (vX12_told_8 k193 Q n) Q) Q l2 l3 l4 l5 1 ((km_i μ 68) - 1) μ))))) ∧ (¬ (v6 < 20) → vX12_value (v6 - 20) l3 l4 μ (fun r20 μ19 => vp_in (km_i μ 68) 200 → ∀ μ22, μ22 = km_sa μ19 57 (km_i μ 68).toNatClampNeg r20 → ∀ μ23, μ23 = km_si μ22 68 ((km_i μ22 68) + 1) → vX12_told_187 (vX12_told_8 k193 Q n) Q l2 l3 l4 l5 μ23)))) ∧ (v6 = 0 → ∀ v24 : Int32, v24 = l5 + 1 → vp_in v24 5400 → vp_in (km_i μ 68) 200 → ∀ μ27, μ27 = km_sa μ 57 (km_i μ 68).toNatClampNeg (km_a μ 56 v24.toNatClampNeg) → ∀ μ28, μ28 = km_si μ27 68 ((km_i μ27 68) + 1) → vX12_told_187 (vX12_told_8 k193 Q n) Q l2 l3 l4 v24 μ28))))
set_option maxRecDepth 100000 in
set_option maxHeartbeats 4000000 in
theorem jcX12_told_8 {k193 k193' k193'' : km_S → Prop} (hk193 : ∀ y0, k193 y0 → k193' y0 → k193'' y0) {Q Q' Q'' : Int32 → km_S → Prop} (hQ : ∀ y0 y1, Q y0 y1 → Q' y0 y1 → Q'' y0 y1) : ∀ (n : Nat) (l2 : Int32) (l3 : Int32) (l4 : Int32) (l5 : Int32) (μ : km_S), wX12_told_8 k193 Q n l2 l3 l4 l5 μ → vX12_told_8 k193' Q' n l2 l3 l4 l5 μ → wX12_told_8 k193'' Q'' n l2 l3 l4 l5 μ := by
  intro n
  induction n with
  | zero => intro l2 l3 l4 l5 μ h; exact h.elim
  | succ n ih =>
    intro l2 l3 l4 l5 μ h v
    unfold wX12_told_8 at h
    unfold vX12_told_8 at v
    unfold wX12_told_8
    refine ⟨?_, ?_⟩
    · have h := h.1
      have v := v.1
      intro e1
      have h := h e1
      have v := v e1
      exact hk193 _ h v
    · have h := h.2
      have v := v.2
      intro e2
      have h := h e2
      have v := v e2
      refine ⟨h.1, ?_⟩
      have v := v h.1
      have h := h.2
      intro v6 e4
      have h := h v6 e4
      have v := v v6 e4
      refine ⟨?_, ?_⟩
      · have h := h.1
        have v := v.1
        intro e5
        have h := h e5
        have v := v e5
        refine ⟨?_, ?_⟩
        · have h := h.1
          have v := v.1
          intro e6
          have h := h e6
          have v := v e6
          refine ⟨?_, ?_⟩
          · have h := h.1
            have v := v.1
            intro e7
            have h := h e7
            have v := v e7
            intro μ10 e8
            have h := h μ10 e8
            have v := v μ10 e8
            refine ⟨h.1, ?_⟩
            have v := v h.1
            have h := h.2
            refine ⟨h.1, ?_⟩
            have v := v h.1
            have h := h.2
            refine jcX12_two ?_ _ _ _ _ h v
            intro r14 μ13 h v
            refine ⟨h.1, ?_⟩
            have v := v h.1
            have h := h.2
            intro μ16 e12
            have h := h μ16 e12
            have v := v μ16 e12
            exact jcX12_told_187 (k8 := wX12_told_8 k193 Q n) (k8' := vX12_told_8 k193' Q' n) (k8'' := wX12_told_8 k193'' Q'' n) (fun _ _ _ _ _ h v => ih _ _ _ _ _ h v) hQ _ _ _ _ _ h v
          · have h := h.2
            have v := v.2
            intro e13
            have h := h e13
            have v := v e13
            refine ⟨h.1, ?_⟩
            have v := v h.1
            have h := h.2
            refine ⟨?_, ?_⟩
            · have h := h.1
              have v := v.1
              intro e15
              have h := h e15
              have v := v e15
              exact jcX12_told_137 (k187 := wX12_told_187 (wX12_told_8 k193 Q n) Q) (k187' := vX12_told_187 (vX12_told_8 k193' Q' n) Q') (k187'' := wX12_told_187 (wX12_told_8 k193'' Q'' n) Q'') (fun _ _ _ _ _ h v => jcX12_told_187 (k8 := wX12_told_8 k193 Q n) (k8' := vX12_told_8 k193' Q' n) (k8'' := wX12_told_8 k193'' Q'' n) (fun _ _ _ _ _ h v => ih _ _ _ _ _ h v) hQ _ _ _ _ _ h v) hQ _ _ _ _ _ _ _ h v
            · have h := h.2
              have v := v.2
              intro e16
              have h := h e16
              have v := v e16
              exact jcX12_told_137 (k187 := wX12_told_187 (wX12_told_8 k193 Q n) Q) (k187' := vX12_told_187 (vX12_told_8 k193' Q' n) Q') (k187'' := wX12_told_187 (wX12_told_8 k193'' Q'' n) Q'') (fun _ _ _ _ _ h v => jcX12_told_187 (k8 := wX12_told_8 k193 Q n) (k8' := vX12_told_8 k193' Q' n) (k8'' := wX12_told_8 k193'' Q'' n) (fun _ _ _ _ _ h v => ih _ _ _ _ _ h v) hQ _ _ _ _ _ h v) hQ _ _ _ _ _ _ _ h v
        · have h := h.2
          have v := v.2
          intro e17
          have h := h e17
          have v := v e17
          refine jcX12_value ?_ _ _ _ _ h v
          intro r20 μ19 h v
          refine ⟨h.1, ?_⟩
          have v := v h.1
          have h := h.2
          intro μ22 e19
          have h := h μ22 e19
          have v := v μ22 e19
          intro μ23 e20
          have h := h μ23 e20
          have v := v μ23 e20
          exact jcX12_told_187 (k8 := wX12_told_8 k193 Q n) (k8' := vX12_told_8 k193' Q' n) (k8'' := wX12_told_8 k193'' Q'' n) (fun _ _ _ _ _ h v => ih _ _ _ _ _ h v) hQ _ _ _ _ _ h v
      · have h := h.2
        have v := v.2
        intro e21
        have h := h e21
        have v := v e21
        intro v24 e22
        have h := h v24 e22
        have v := v v24 e22
        refine ⟨h.1, ?_⟩
        have v := v h.1
        have h := h.2
        refine ⟨h.1, ?_⟩
        have v := v h.1
        have h := h.2
        intro μ27 e25
        have h := h μ27 e25
        have v := v μ27 e25
        intro μ28 e26
        have h := h μ28 e26
        have v := v μ28 e26
        exact jcX12_told_187 (k8 := wX12_told_8 k193 Q n) (k8' := vX12_told_8 k193' Q' n) (k8'' := wX12_told_8 k193'' Q'' n) (fun _ _ _ _ _ h v => ih _ _ _ _ _ h v) hQ _ _ _ _ _ h v
set_option maxRecDepth 100000 in
set_option maxHeartbeats 4000000 in
theorem jaX12_told_8 {k193 k193' : km_S → Prop} (hk193 : ∀ y0, k193 y0 → k193' y0) {Q Q' : Int32 → km_S → Prop} (hQ : ∀ y0 y1, Q y0 y1 → Q' y0 y1) : ∀ (n m : Nat) (l2 : Int32) (l3 : Int32) (l4 : Int32) (l5 : Int32) (μ : km_S), wX12_told_8 k193 Q n l2 l3 l4 l5 μ → vX12_told_8 k193' Q' m l2 l3 l4 l5 μ := by
  intro n
  induction n with
  | zero => intro m l2 l3 l4 l5 μ h; exact h.elim
  | succ n ih =>
    intro m l2 l3 l4 l5 μ h
    cases m with
    | zero => exact trivial
    | succ m =>
      unfold wX12_told_8 at h
      unfold vX12_told_8
      refine ⟨?_, ?_⟩
      · have h := h.1
        intro e1
        have h := h e1
        exact hk193 _ h
      · have h := h.2
        intro e2
        have h := h e2
        intro e3
        have h := h.2
        intro v6 e4
        have h := h v6 e4
        refine ⟨?_, ?_⟩
        · have h := h.1
          intro e5
          have h := h e5
          refine ⟨?_, ?_⟩
          · have h := h.1
            intro e6
            have h := h e6
            refine ⟨?_, ?_⟩
            · have h := h.1
              intro e7
              have h := h e7
              intro μ10 e8
              have h := h μ10 e8
              intro e9
              have h := h.2
              intro e10
              have h := h.2
              refine jaX12_two ?_ _ _ _ _ h
              intro r14 μ13 h
              intro e11
              have h := h.2
              intro μ16 e12
              have h := h μ16 e12
              exact jaX12_told_187 (k8 := wX12_told_8 k193 Q n) (k8' := vX12_told_8 k193' Q' m) (fun _ _ _ _ _ h => ih m _ _ _ _ _ h) hQ _ _ _ _ _ h
            · have h := h.2
              intro e13
              have h := h e13
              intro e14
              have h := h.2
              refine ⟨?_, ?_⟩
              · have h := h.1
                intro e15
                have h := h e15
                exact jaX12_told_137 (k187 := wX12_told_187 (wX12_told_8 k193 Q n) Q) (k187' := vX12_told_187 (vX12_told_8 k193' Q' m) Q') (fun _ _ _ _ _ h => jaX12_told_187 (k8 := wX12_told_8 k193 Q n) (k8' := vX12_told_8 k193' Q' m) (fun _ _ _ _ _ h => ih m _ _ _ _ _ h) hQ _ _ _ _ _ h) hQ _ _ _ _ _ _ _ h
              · have h := h.2
                intro e16
                have h := h e16
                exact jaX12_told_137 (k187 := wX12_told_187 (wX12_told_8 k193 Q n) Q) (k187' := vX12_told_187 (vX12_told_8 k193' Q' m) Q') (fun _ _ _ _ _ h => jaX12_told_187 (k8 := wX12_told_8 k193 Q n) (k8' := vX12_told_8 k193' Q' m) (fun _ _ _ _ _ h => ih m _ _ _ _ _ h) hQ _ _ _ _ _ h) hQ _ _ _ _ _ _ _ h
          · have h := h.2
            intro e17
            have h := h e17
            refine jaX12_value ?_ _ _ _ _ h
            intro r20 μ19 h
            intro e18
            have h := h.2
            intro μ22 e19
            have h := h μ22 e19
            intro μ23 e20
            have h := h μ23 e20
            exact jaX12_told_187 (k8 := wX12_told_8 k193 Q n) (k8' := vX12_told_8 k193' Q' m) (fun _ _ _ _ _ h => ih m _ _ _ _ _ h) hQ _ _ _ _ _ h
        · have h := h.2
          intro e21
          have h := h e21
          intro v24 e22
          have h := h v24 e22
          intro e23
          have h := h.2
          intro e24
          have h := h.2
          intro μ27 e25
          have h := h μ27 e25
          intro μ28 e26
          have h := h μ28 e26
          exact jaX12_told_187 (k8 := wX12_told_8 k193 Q n) (k8' := vX12_told_8 k193' Q' m) (fun _ _ _ _ _ h => ih m _ _ _ _ _ h) hQ _ _ _ _ _ h
set_option maxRecDepth 100000 in
set_option maxHeartbeats 4000000 in
theorem jfX12_told_8 {I : km_S → Prop} (W : gw_ I [57, 68]) {k193 : km_S → Prop} (hk193 : ∀ y0, I y0 → k193 y0) {Q : Int32 → km_S → Prop} (hQ : ∀ y0 y1, I y1 → Q y0 y1) : ∀ (n : Nat) (l2 : Int32) (l3 : Int32) (l4 : Int32) (l5 : Int32) (μ : km_S), I μ → vX12_told_8 k193 Q n l2 l3 l4 l5 μ := by
  intro n
  induction n with
  | zero => intro l2 l3 l4 l5 μ i; exact trivial
  | succ n ih =>
    intro l2 l3 l4 l5 μ i
    unfold vX12_told_8
    refine ⟨?_, ?_⟩
    · intro e1
      exact hk193 _ i
    · intro e2
      intro e3
      intro v6 e4
      refine ⟨?_, ?_⟩
      · intro e5
        refine ⟨?_, ?_⟩
        · intro e6
          refine ⟨?_, ?_⟩
          · intro e7
            intro μ10 e8
            have iμ10 : I μ10 := by rw [e8]; exact ((W _ i) 68 (by decide)).1 _
            intro e9
            intro e10
            refine jfX12_two (I := I) (gw_sub W (by decide)) ?_ _ _ _ _ iμ10
            intro r14 μ13 iμ13
            intro e11
            intro μ16 e12
            have iμ16 : I μ16 := by rw [e12]; exact ((W _ iμ13) 57 (by decide)).2.1 _ _
            exact jfX12_told_187 (I := I) (gw_sub W (by decide)) (k8 := vX12_told_8 k193 Q n) (fun _ _ _ _ _ i => ih _ _ _ _ _ i) hQ _ _ _ _ _ iμ16
          · intro e13
            intro e14
            refine ⟨?_, ?_⟩
            · intro e15
              exact jfX12_told_137 (I := I) (gw_sub W (by decide)) (k187 := vX12_told_187 (vX12_told_8 k193 Q n) Q) (fun _ _ _ _ _ i => jfX12_told_187 (I := I) (gw_sub W (by decide)) (k8 := vX12_told_8 k193 Q n) (fun _ _ _ _ _ i => ih _ _ _ _ _ i) hQ _ _ _ _ _ i) hQ _ _ _ _ _ _ _ i
            · intro e16
              exact jfX12_told_137 (I := I) (gw_sub W (by decide)) (k187 := vX12_told_187 (vX12_told_8 k193 Q n) Q) (fun _ _ _ _ _ i => jfX12_told_187 (I := I) (gw_sub W (by decide)) (k8 := vX12_told_8 k193 Q n) (fun _ _ _ _ _ i => ih _ _ _ _ _ i) hQ _ _ _ _ _ i) hQ _ _ _ _ _ _ _ i
        · intro e17
          refine jfX12_value (I := I) (gw_sub W (by decide)) ?_ _ _ _ _ i
          intro r20 μ19 iμ19
          intro e18
          intro μ22 e19
          have iμ22 : I μ22 := by rw [e19]; exact ((W _ iμ19) 57 (by decide)).2.1 _ _
          intro μ23 e20
          have iμ23 : I μ23 := by rw [e20]; exact ((W _ iμ22) 68 (by decide)).1 _
          exact jfX12_told_187 (I := I) (gw_sub W (by decide)) (k8 := vX12_told_8 k193 Q n) (fun _ _ _ _ _ i => ih _ _ _ _ _ i) hQ _ _ _ _ _ iμ23
      · intro e21
        intro v24 e22
        intro e23
        intro e24
        intro μ27 e25
        have iμ27 : I μ27 := by rw [e25]; exact ((W _ i) 57 (by decide)).2.1 _ _
        intro μ28 e26
        have iμ28 : I μ28 := by rw [e26]; exact ((W _ iμ27) 68 (by decide)).1 _
        exact jfX12_told_187 (I := I) (gw_sub W (by decide)) (k8 := vX12_told_8 k193 Q n) (fun _ _ _ _ _ i => ih _ _ _ _ _ i) hQ _ _ _ _ _ iμ28
def vX12_told (l1 : Int32) (l2 : Int32) (l3 : Int32) (l4 : Int32) (μ : km_S) (Q : Int32 → km_S → Prop) : Prop := ∀ μ29, μ29 = km_si μ 68 0 → ∀ j, vX12_told_8 (vX12_told_193 Q) Q j l2 l3 l4 l1 μ29
set_option maxRecDepth 100000 in
set_option maxHeartbeats 4000000 in
theorem jcX12_told {Q Q' Q'' : Int32 → km_S → Prop} (hQ : ∀ y0 y1, Q y0 y1 → Q' y0 y1 → Q'' y0 y1) : ∀ (l1 : Int32) (l2 : Int32) (l3 : Int32) (l4 : Int32) (μ : km_S), wX12_told l1 l2 l3 l4 μ Q → vX12_told l1 l2 l3 l4 μ Q' → wX12_told l1 l2 l3 l4 μ Q'' := by
  intro l1 l2 l3 l4 μ h v
  unfold wX12_told at h
  unfold vX12_told at v
  unfold wX12_told
  intro μ29 e1
  have h := h μ29 e1
  have v := v μ29 e1
  obtain ⟨j, h⟩ := h
  refine ⟨j, ?_⟩
  have v := v j
  exact jcX12_told_8 (k193 := wX12_told_193 Q) (k193' := vX12_told_193 Q') (k193'' := wX12_told_193 Q'') (fun _ h v => jcX12_told_193 hQ _ h v) hQ _ _ _ _ _ _ h v
set_option maxRecDepth 100000 in
set_option maxHeartbeats 4000000 in
theorem jaX12_told {Q Q' : Int32 → km_S → Prop} (hQ : ∀ y0 y1, Q y0 y1 → Q' y0 y1) : ∀ (l1 : Int32) (l2 : Int32) (l3 : Int32) (l4 : Int32) (μ : km_S), wX12_told l1 l2 l3 l4 μ Q → vX12_told l1 l2 l3 l4 μ Q' := by
  intro l1 l2 l3 l4 μ h
  unfold wX12_told at h
  unfold vX12_told
  intro μ29 e1
  have h := h μ29 e1
  obtain ⟨j, h⟩ := h
  intro j9
  exact jaX12_told_8 (k193 := wX12_told_193 Q) (k193' := vX12_told_193 Q') (fun _ h => jaX12_told_193 hQ _ h) hQ _ j9 _ _ _ _ _ h
set_option maxRecDepth 100000 in
set_option maxHeartbeats 4000000 in
theorem jfX12_told {I : km_S → Prop} (W : gw_ I [57, 68]) {Q : Int32 → km_S → Prop} (hQ : ∀ y0 y1, I y1 → Q y0 y1) : ∀ (l1 : Int32) (l2 : Int32) (l3 : Int32) (l4 : Int32) (μ : km_S), I μ → vX12_told l1 l2 l3 l4 μ Q := by
  intro l1 l2 l3 l4 μ i
  unfold vX12_told
  intro μ29 e1
  have iμ29 : I μ29 := by rw [e1]; exact ((W _ i) 68 (by decide)).1 _
  intro j
  exact jfX12_told_8 (I := I) (gw_sub W (by decide)) (k193 := vX12_told_193 Q) (fun _ i => jfX12_told_193 (I := I) (gw_sub W (by decide)) hQ _ i) hQ _ _ _ _ _ _ iμ29
def vX12_ruled_180 (k182 : Int32 → Int32 → Int32 → Int32 → Int32 → Int32 → km_S → Prop) (Q : Int32 → km_S → Prop) (l1 : Int32) (l2 : Int32) (l3 : Int32) (l4 : Int32) (l6 : Int32) (s0 : Int32) (μ : km_S) : Prop := k182 l1 l2 l3 l4 s0 l6 μ
set_option maxRecDepth 100000 in
set_option maxHeartbeats 4000000 in
theorem jcX12_ruled_180 {k182 k182' k182'' : Int32 → Int32 → Int32 → Int32 → Int32 → Int32 → km_S → Prop} (hk182 : ∀ y0 y1 y2 y3 y4 y5 y6, k182 y0 y1 y2 y3 y4 y5 y6 → k182' y0 y1 y2 y3 y4 y5 y6 → k182'' y0 y1 y2 y3 y4 y5 y6) {Q Q' Q'' : Int32 → km_S → Prop} (hQ : ∀ y0 y1, Q y0 y1 → Q' y0 y1 → Q'' y0 y1) : ∀ (l1 : Int32) (l2 : Int32) (l3 : Int32) (l4 : Int32) (l6 : Int32) (s0 : Int32) (μ : km_S), wX12_ruled_180 k182 Q l1 l2 l3 l4 l6 s0 μ → vX12_ruled_180 k182' Q' l1 l2 l3 l4 l6 s0 μ → wX12_ruled_180 k182'' Q'' l1 l2 l3 l4 l6 s0 μ := by
  intro l1 l2 l3 l4 l6 s0 μ h v
  unfold wX12_ruled_180 at h
  unfold vX12_ruled_180 at v
  unfold wX12_ruled_180
  exact hk182 _ _ _ _ _ _ _ h v
set_option maxRecDepth 100000 in
set_option maxHeartbeats 4000000 in
theorem jaX12_ruled_180 {k182 k182' : Int32 → Int32 → Int32 → Int32 → Int32 → Int32 → km_S → Prop} (hk182 : ∀ y0 y1 y2 y3 y4 y5 y6, k182 y0 y1 y2 y3 y4 y5 y6 → k182' y0 y1 y2 y3 y4 y5 y6) {Q Q' : Int32 → km_S → Prop} (hQ : ∀ y0 y1, Q y0 y1 → Q' y0 y1) : ∀ (l1 : Int32) (l2 : Int32) (l3 : Int32) (l4 : Int32) (l6 : Int32) (s0 : Int32) (μ : km_S), wX12_ruled_180 k182 Q l1 l2 l3 l4 l6 s0 μ → vX12_ruled_180 k182' Q' l1 l2 l3 l4 l6 s0 μ := by
  intro l1 l2 l3 l4 l6 s0 μ h
  unfold wX12_ruled_180 at h
  unfold vX12_ruled_180
  exact hk182 _ _ _ _ _ _ _ h
set_option maxRecDepth 100000 in
set_option maxHeartbeats 4000000 in
theorem jfX12_ruled_180 {I : km_S → Prop} (W : gw_ I []) {k182 : Int32 → Int32 → Int32 → Int32 → Int32 → Int32 → km_S → Prop} (hk182 : ∀ y0 y1 y2 y3 y4 y5 y6, I y6 → k182 y0 y1 y2 y3 y4 y5 y6) {Q : Int32 → km_S → Prop} (hQ : ∀ y0 y1, I y1 → Q y0 y1) : ∀ (l1 : Int32) (l2 : Int32) (l3 : Int32) (l4 : Int32) (l6 : Int32) (s0 : Int32) (μ : km_S), I μ → vX12_ruled_180 k182 Q l1 l2 l3 l4 l6 s0 μ := by
  intro l1 l2 l3 l4 l6 s0 μ i
  unfold vX12_ruled_180
  exact hk182 _ _ _ _ _ _ _ i
def vX12_ruled_182 (k71 : Int32 → Int32 → Int32 → Int32 → Int32 → Int32 → km_S → Prop) (Q : Int32 → km_S → Prop) (l1 : Int32) (l2 : Int32) (l3 : Int32) (l4 : Int32) (l5 : Int32) (l6 : Int32) (μ : km_S) : Prop := ∀ v1 : Int32, v1 = l6 + 1 → k71 l1 l2 l3 l4 l5 v1 μ
set_option maxRecDepth 100000 in
set_option maxHeartbeats 4000000 in
theorem jcX12_ruled_182 {k71 k71' k71'' : Int32 → Int32 → Int32 → Int32 → Int32 → Int32 → km_S → Prop} (hk71 : ∀ y0 y1 y2 y3 y4 y5 y6, k71 y0 y1 y2 y3 y4 y5 y6 → k71' y0 y1 y2 y3 y4 y5 y6 → k71'' y0 y1 y2 y3 y4 y5 y6) {Q Q' Q'' : Int32 → km_S → Prop} (hQ : ∀ y0 y1, Q y0 y1 → Q' y0 y1 → Q'' y0 y1) : ∀ (l1 : Int32) (l2 : Int32) (l3 : Int32) (l4 : Int32) (l5 : Int32) (l6 : Int32) (μ : km_S), wX12_ruled_182 k71 Q l1 l2 l3 l4 l5 l6 μ → vX12_ruled_182 k71' Q' l1 l2 l3 l4 l5 l6 μ → wX12_ruled_182 k71'' Q'' l1 l2 l3 l4 l5 l6 μ := by
  intro l1 l2 l3 l4 l5 l6 μ h v
  unfold wX12_ruled_182 at h
  unfold vX12_ruled_182 at v
  unfold wX12_ruled_182
  intro v1 e1
  have h := h v1 e1
  have v := v v1 e1
  exact hk71 _ _ _ _ _ _ _ h v
set_option maxRecDepth 100000 in
set_option maxHeartbeats 4000000 in
theorem jaX12_ruled_182 {k71 k71' : Int32 → Int32 → Int32 → Int32 → Int32 → Int32 → km_S → Prop} (hk71 : ∀ y0 y1 y2 y3 y4 y5 y6, k71 y0 y1 y2 y3 y4 y5 y6 → k71' y0 y1 y2 y3 y4 y5 y6) {Q Q' : Int32 → km_S → Prop} (hQ : ∀ y0 y1, Q y0 y1 → Q' y0 y1) : ∀ (l1 : Int32) (l2 : Int32) (l3 : Int32) (l4 : Int32) (l5 : Int32) (l6 : Int32) (μ : km_S), wX12_ruled_182 k71 Q l1 l2 l3 l4 l5 l6 μ → vX12_ruled_182 k71' Q' l1 l2 l3 l4 l5 l6 μ := by
  intro l1 l2 l3 l4 l5 l6 μ h
  unfold wX12_ruled_182 at h
  unfold vX12_ruled_182
  intro v1 e1
  have h := h v1 e1
  exact hk71 _ _ _ _ _ _ _ h
set_option maxRecDepth 100000 in
set_option maxHeartbeats 4000000 in
theorem jfX12_ruled_182 {I : km_S → Prop} (W : gw_ I []) {k71 : Int32 → Int32 → Int32 → Int32 → Int32 → Int32 → km_S → Prop} (hk71 : ∀ y0 y1 y2 y3 y4 y5 y6, I y6 → k71 y0 y1 y2 y3 y4 y5 y6) {Q : Int32 → km_S → Prop} (hQ : ∀ y0 y1, I y1 → Q y0 y1) : ∀ (l1 : Int32) (l2 : Int32) (l3 : Int32) (l4 : Int32) (l5 : Int32) (l6 : Int32) (μ : km_S), I μ → vX12_ruled_182 k71 Q l1 l2 l3 l4 l5 l6 μ := by
  intro l1 l2 l3 l4 l5 l6 μ i
  unfold vX12_ruled_182
  intro v1 e1
  exact hk71 _ _ _ _ _ _ _ i
def vX12_ruled_59 (k6 : Int32 → Int32 → Int32 → Int32 → Int32 → km_S → Prop) (Q : Int32 → km_S → Prop) (l1 : Int32) (l2 : Int32) (l3 : Int32) (l4 : Int32) (l5 : Int32) (μ : km_S) : Prop := ∀ v2 : Int32, v2 = l5 + 1 → k6 l1 l2 l3 l4 v2 μ
set_option maxRecDepth 100000 in
set_option maxHeartbeats 4000000 in
theorem jcX12_ruled_59 {k6 k6' k6'' : Int32 → Int32 → Int32 → Int32 → Int32 → km_S → Prop} (hk6 : ∀ y0 y1 y2 y3 y4 y5, k6 y0 y1 y2 y3 y4 y5 → k6' y0 y1 y2 y3 y4 y5 → k6'' y0 y1 y2 y3 y4 y5) {Q Q' Q'' : Int32 → km_S → Prop} (hQ : ∀ y0 y1, Q y0 y1 → Q' y0 y1 → Q'' y0 y1) : ∀ (l1 : Int32) (l2 : Int32) (l3 : Int32) (l4 : Int32) (l5 : Int32) (μ : km_S), wX12_ruled_59 k6 Q l1 l2 l3 l4 l5 μ → vX12_ruled_59 k6' Q' l1 l2 l3 l4 l5 μ → wX12_ruled_59 k6'' Q'' l1 l2 l3 l4 l5 μ := by
  intro l1 l2 l3 l4 l5 μ h v
  unfold wX12_ruled_59 at h
  unfold vX12_ruled_59 at v
  unfold wX12_ruled_59
  intro v2 e1
  have h := h v2 e1
  have v := v v2 e1
  exact hk6 _ _ _ _ _ _ h v
set_option maxRecDepth 100000 in
set_option maxHeartbeats 4000000 in
theorem jaX12_ruled_59 {k6 k6' : Int32 → Int32 → Int32 → Int32 → Int32 → km_S → Prop} (hk6 : ∀ y0 y1 y2 y3 y4 y5, k6 y0 y1 y2 y3 y4 y5 → k6' y0 y1 y2 y3 y4 y5) {Q Q' : Int32 → km_S → Prop} (hQ : ∀ y0 y1, Q y0 y1 → Q' y0 y1) : ∀ (l1 : Int32) (l2 : Int32) (l3 : Int32) (l4 : Int32) (l5 : Int32) (μ : km_S), wX12_ruled_59 k6 Q l1 l2 l3 l4 l5 μ → vX12_ruled_59 k6' Q' l1 l2 l3 l4 l5 μ := by
  intro l1 l2 l3 l4 l5 μ h
  unfold wX12_ruled_59 at h
  unfold vX12_ruled_59
  intro v2 e1
  have h := h v2 e1
  exact hk6 _ _ _ _ _ _ h
set_option maxRecDepth 100000 in
set_option maxHeartbeats 4000000 in
theorem jfX12_ruled_59 {I : km_S → Prop} (W : gw_ I []) {k6 : Int32 → Int32 → Int32 → Int32 → Int32 → km_S → Prop} (hk6 : ∀ y0 y1 y2 y3 y4 y5, I y5 → k6 y0 y1 y2 y3 y4 y5) {Q : Int32 → km_S → Prop} (hQ : ∀ y0 y1, I y1 → Q y0 y1) : ∀ (l1 : Int32) (l2 : Int32) (l3 : Int32) (l4 : Int32) (l5 : Int32) (μ : km_S), I μ → vX12_ruled_59 k6 Q l1 l2 l3 l4 l5 μ := by
  intro l1 l2 l3 l4 l5 μ i
  unfold vX12_ruled_59
  intro v2 e1
  exact hk6 _ _ _ _ _ _ i
def vX12_ruled_55 (k59 : Int32 → Int32 → Int32 → Int32 → Int32 → km_S → Prop) (Q : Int32 → km_S → Prop) (l1 : Int32) (l2 : Int32) (l3 : Int32) (l5 : Int32) (μ : km_S) : Prop := k59 l1 l2 l3 l5 l5 μ
set_option maxRecDepth 100000 in
set_option maxHeartbeats 4000000 in
theorem jcX12_ruled_55 {k59 k59' k59'' : Int32 → Int32 → Int32 → Int32 → Int32 → km_S → Prop} (hk59 : ∀ y0 y1 y2 y3 y4 y5, k59 y0 y1 y2 y3 y4 y5 → k59' y0 y1 y2 y3 y4 y5 → k59'' y0 y1 y2 y3 y4 y5) {Q Q' Q'' : Int32 → km_S → Prop} (hQ : ∀ y0 y1, Q y0 y1 → Q' y0 y1 → Q'' y0 y1) : ∀ (l1 : Int32) (l2 : Int32) (l3 : Int32) (l5 : Int32) (μ : km_S), wX12_ruled_55 k59 Q l1 l2 l3 l5 μ → vX12_ruled_55 k59' Q' l1 l2 l3 l5 μ → wX12_ruled_55 k59'' Q'' l1 l2 l3 l5 μ := by
  intro l1 l2 l3 l5 μ h v
  unfold wX12_ruled_55 at h
  unfold vX12_ruled_55 at v
  unfold wX12_ruled_55
  exact hk59 _ _ _ _ _ _ h v
set_option maxRecDepth 100000 in
set_option maxHeartbeats 4000000 in
theorem jaX12_ruled_55 {k59 k59' : Int32 → Int32 → Int32 → Int32 → Int32 → km_S → Prop} (hk59 : ∀ y0 y1 y2 y3 y4 y5, k59 y0 y1 y2 y3 y4 y5 → k59' y0 y1 y2 y3 y4 y5) {Q Q' : Int32 → km_S → Prop} (hQ : ∀ y0 y1, Q y0 y1 → Q' y0 y1) : ∀ (l1 : Int32) (l2 : Int32) (l3 : Int32) (l5 : Int32) (μ : km_S), wX12_ruled_55 k59 Q l1 l2 l3 l5 μ → vX12_ruled_55 k59' Q' l1 l2 l3 l5 μ := by
  intro l1 l2 l3 l5 μ h
  unfold wX12_ruled_55 at h
  unfold vX12_ruled_55
  exact hk59 _ _ _ _ _ _ h
set_option maxRecDepth 100000 in
set_option maxHeartbeats 4000000 in
theorem jfX12_ruled_55 {I : km_S → Prop} (W : gw_ I []) {k59 : Int32 → Int32 → Int32 → Int32 → Int32 → km_S → Prop} (hk59 : ∀ y0 y1 y2 y3 y4 y5, I y5 → k59 y0 y1 y2 y3 y4 y5) {Q : Int32 → km_S → Prop} (hQ : ∀ y0 y1, I y1 → Q y0 y1) : ∀ (l1 : Int32) (l2 : Int32) (l3 : Int32) (l5 : Int32) (μ : km_S), I μ → vX12_ruled_55 k59 Q l1 l2 l3 l5 μ := by
  intro l1 l2 l3 l5 μ i
  unfold vX12_ruled_55
  exact hk59 _ _ _ _ _ _ i
def vX12_ruled_6 (k65 : Int32 → Int32 → Int32 → Int32 → km_S → Prop) (Q : Int32 → km_S → Prop) : Nat → Int32 → Int32 → Int32 → Int32 → Int32 → km_S → Prop
  | 0, _, _, _, _, _, _ => True
  | n + 1, l1, l2, l3, l4, l5, μ => (((km_i μ 5) ≤ l5 → k65 l1 l2 l3 l4 μ) ∧ (¬ ((km_i μ 5) ≤ l5) → vp_in l5 6 → ((((km_i μ 2) / 24) < (km_a μ 53 l5.toNatClampNeg) → vX12_ruled_59 (vX12_ruled_6 k65 Q n) Q l1 l2 l3 l4 l5 μ) ∧ (¬ (((km_i μ 2) / 24) < (km_a μ 53 l5.toNatClampNeg)) → ((l4 = (-1) → vX12_ruled_55 (vX12_ruled_59 (vX12_ruled_6 k65 Q n) Q) Q l1 l2 l3 l5 μ) ∧ (¬ (l4 = (-1)) → vp_in l5 6 → vp_in l4 6 → (((km_a μ 53 l5.toNatClampNeg) < (km_a μ 53 l4.toNatClampNeg) → vX12_ruled_59 (vX12_ruled_6 k65 Q n) Q l1 l2 l3 l4 l5 μ) ∧ (¬ ((km_a μ 53 l5.toNatClampNeg) < (km_a μ 53 l4.toNatClampNeg)) → vX12_ruled_55 (vX12_ruled_59 (vX12_ruled_6 k65 Q n) Q) Q l1 l2 l3 l5 μ))))))))
set_option maxRecDepth 100000 in
set_option maxHeartbeats 4000000 in
theorem jcX12_ruled_6 {k65 k65' k65'' : Int32 → Int32 → Int32 → Int32 → km_S → Prop} (hk65 : ∀ y0 y1 y2 y3 y4, k65 y0 y1 y2 y3 y4 → k65' y0 y1 y2 y3 y4 → k65'' y0 y1 y2 y3 y4) {Q Q' Q'' : Int32 → km_S → Prop} (hQ : ∀ y0 y1, Q y0 y1 → Q' y0 y1 → Q'' y0 y1) : ∀ (n : Nat) (l1 : Int32) (l2 : Int32) (l3 : Int32) (l4 : Int32) (l5 : Int32) (μ : km_S), wX12_ruled_6 k65 Q n l1 l2 l3 l4 l5 μ → vX12_ruled_6 k65' Q' n l1 l2 l3 l4 l5 μ → wX12_ruled_6 k65'' Q'' n l1 l2 l3 l4 l5 μ := by
  intro n
  induction n with
  | zero => intro l1 l2 l3 l4 l5 μ h; exact h.elim
  | succ n ih =>
    intro l1 l2 l3 l4 l5 μ h v
    unfold wX12_ruled_6 at h
    unfold vX12_ruled_6 at v
    unfold wX12_ruled_6
    refine ⟨?_, ?_⟩
    · have h := h.1
      have v := v.1
      intro e1
      have h := h e1
      have v := v e1
      exact hk65 _ _ _ _ _ h v
    · have h := h.2
      have v := v.2
      intro e2
      have h := h e2
      have v := v e2
      refine ⟨h.1, ?_⟩
      have v := v h.1
      have h := h.2
      refine ⟨?_, ?_⟩
      · have h := h.1
        have v := v.1
        intro e4
        have h := h e4
        have v := v e4
        exact jcX12_ruled_59 (k6 := wX12_ruled_6 k65 Q n) (k6' := vX12_ruled_6 k65' Q' n) (k6'' := wX12_ruled_6 k65'' Q'' n) (fun _ _ _ _ _ _ h v => ih _ _ _ _ _ _ h v) hQ _ _ _ _ _ _ h v
      · have h := h.2
        have v := v.2
        intro e5
        have h := h e5
        have v := v e5
        refine ⟨?_, ?_⟩
        · have h := h.1
          have v := v.1
          intro e6
          have h := h e6
          have v := v e6
          exact jcX12_ruled_55 (k59 := wX12_ruled_59 (wX12_ruled_6 k65 Q n) Q) (k59' := vX12_ruled_59 (vX12_ruled_6 k65' Q' n) Q') (k59'' := wX12_ruled_59 (wX12_ruled_6 k65'' Q'' n) Q'') (fun _ _ _ _ _ _ h v => jcX12_ruled_59 (k6 := wX12_ruled_6 k65 Q n) (k6' := vX12_ruled_6 k65' Q' n) (k6'' := wX12_ruled_6 k65'' Q'' n) (fun _ _ _ _ _ _ h v => ih _ _ _ _ _ _ h v) hQ _ _ _ _ _ _ h v) hQ _ _ _ _ _ h v
        · have h := h.2
          have v := v.2
          intro e7
          have h := h e7
          have v := v e7
          refine ⟨h.1, ?_⟩
          have v := v h.1
          have h := h.2
          refine ⟨h.1, ?_⟩
          have v := v h.1
          have h := h.2
          refine ⟨?_, ?_⟩
          · have h := h.1
            have v := v.1
            intro e10
            have h := h e10
            have v := v e10
            exact jcX12_ruled_59 (k6 := wX12_ruled_6 k65 Q n) (k6' := vX12_ruled_6 k65' Q' n) (k6'' := wX12_ruled_6 k65'' Q'' n) (fun _ _ _ _ _ _ h v => ih _ _ _ _ _ _ h v) hQ _ _ _ _ _ _ h v
          · have h := h.2
            have v := v.2
            intro e11
            have h := h e11
            have v := v e11
            exact jcX12_ruled_55 (k59 := wX12_ruled_59 (wX12_ruled_6 k65 Q n) Q) (k59' := vX12_ruled_59 (vX12_ruled_6 k65' Q' n) Q') (k59'' := wX12_ruled_59 (wX12_ruled_6 k65'' Q'' n) Q'') (fun _ _ _ _ _ _ h v => jcX12_ruled_59 (k6 := wX12_ruled_6 k65 Q n) (k6' := vX12_ruled_6 k65' Q' n) (k6'' := wX12_ruled_6 k65'' Q'' n) (fun _ _ _ _ _ _ h v => ih _ _ _ _ _ _ h v) hQ _ _ _ _ _ _ h v) hQ _ _ _ _ _ h v
set_option maxRecDepth 100000 in
set_option maxHeartbeats 4000000 in
theorem jaX12_ruled_6 {k65 k65' : Int32 → Int32 → Int32 → Int32 → km_S → Prop} (hk65 : ∀ y0 y1 y2 y3 y4, k65 y0 y1 y2 y3 y4 → k65' y0 y1 y2 y3 y4) {Q Q' : Int32 → km_S → Prop} (hQ : ∀ y0 y1, Q y0 y1 → Q' y0 y1) : ∀ (n m : Nat) (l1 : Int32) (l2 : Int32) (l3 : Int32) (l4 : Int32) (l5 : Int32) (μ : km_S), wX12_ruled_6 k65 Q n l1 l2 l3 l4 l5 μ → vX12_ruled_6 k65' Q' m l1 l2 l3 l4 l5 μ := by
  intro n
  induction n with
  | zero => intro m l1 l2 l3 l4 l5 μ h; exact h.elim
  | succ n ih =>
    intro m l1 l2 l3 l4 l5 μ h
    cases m with
    | zero => exact trivial
    | succ m =>
      unfold wX12_ruled_6 at h
      unfold vX12_ruled_6
      refine ⟨?_, ?_⟩
      · have h := h.1
        intro e1
        have h := h e1
        exact hk65 _ _ _ _ _ h
      · have h := h.2
        intro e2
        have h := h e2
        intro e3
        have h := h.2
        refine ⟨?_, ?_⟩
        · have h := h.1
          intro e4
          have h := h e4
          exact jaX12_ruled_59 (k6 := wX12_ruled_6 k65 Q n) (k6' := vX12_ruled_6 k65' Q' m) (fun _ _ _ _ _ _ h => ih m _ _ _ _ _ _ h) hQ _ _ _ _ _ _ h
        · have h := h.2
          intro e5
          have h := h e5
          refine ⟨?_, ?_⟩
          · have h := h.1
            intro e6
            have h := h e6
            exact jaX12_ruled_55 (k59 := wX12_ruled_59 (wX12_ruled_6 k65 Q n) Q) (k59' := vX12_ruled_59 (vX12_ruled_6 k65' Q' m) Q') (fun _ _ _ _ _ _ h => jaX12_ruled_59 (k6 := wX12_ruled_6 k65 Q n) (k6' := vX12_ruled_6 k65' Q' m) (fun _ _ _ _ _ _ h => ih m _ _ _ _ _ _ h) hQ _ _ _ _ _ _ h) hQ _ _ _ _ _ h
          · have h := h.2
            intro e7
            have h := h e7
            intro e8
            have h := h.2
            intro e9
            have h := h.2
            refine ⟨?_, ?_⟩
            · have h := h.1
              intro e10
              have h := h e10
              exact jaX12_ruled_59 (k6 := wX12_ruled_6 k65 Q n) (k6' := vX12_ruled_6 k65' Q' m) (fun _ _ _ _ _ _ h => ih m _ _ _ _ _ _ h) hQ _ _ _ _ _ _ h
            · have h := h.2
              intro e11
              have h := h e11
              exact jaX12_ruled_55 (k59 := wX12_ruled_59 (wX12_ruled_6 k65 Q n) Q) (k59' := vX12_ruled_59 (vX12_ruled_6 k65' Q' m) Q') (fun _ _ _ _ _ _ h => jaX12_ruled_59 (k6 := wX12_ruled_6 k65 Q n) (k6' := vX12_ruled_6 k65' Q' m) (fun _ _ _ _ _ _ h => ih m _ _ _ _ _ _ h) hQ _ _ _ _ _ _ h) hQ _ _ _ _ _ h
set_option maxRecDepth 100000 in
set_option maxHeartbeats 4000000 in
theorem jfX12_ruled_6 {I : km_S → Prop} (W : gw_ I []) {k65 : Int32 → Int32 → Int32 → Int32 → km_S → Prop} (hk65 : ∀ y0 y1 y2 y3 y4, I y4 → k65 y0 y1 y2 y3 y4) {Q : Int32 → km_S → Prop} (hQ : ∀ y0 y1, I y1 → Q y0 y1) : ∀ (n : Nat) (l1 : Int32) (l2 : Int32) (l3 : Int32) (l4 : Int32) (l5 : Int32) (μ : km_S), I μ → vX12_ruled_6 k65 Q n l1 l2 l3 l4 l5 μ := by
  intro n
  induction n with
  | zero => intro l1 l2 l3 l4 l5 μ i; exact trivial
  | succ n ih =>
    intro l1 l2 l3 l4 l5 μ i
    unfold vX12_ruled_6
    refine ⟨?_, ?_⟩
    · intro e1
      exact hk65 _ _ _ _ _ i
    · intro e2
      intro e3
      refine ⟨?_, ?_⟩
      · intro e4
        exact jfX12_ruled_59 (I := I) (gw_sub W (by decide)) (k6 := vX12_ruled_6 k65 Q n) (fun _ _ _ _ _ _ i => ih _ _ _ _ _ _ i) hQ _ _ _ _ _ _ i
      · intro e5
        refine ⟨?_, ?_⟩
        · intro e6
          exact jfX12_ruled_55 (I := I) (gw_sub W (by decide)) (k59 := vX12_ruled_59 (vX12_ruled_6 k65 Q n) Q) (fun _ _ _ _ _ _ i => jfX12_ruled_59 (I := I) (gw_sub W (by decide)) (k6 := vX12_ruled_6 k65 Q n) (fun _ _ _ _ _ _ i => ih _ _ _ _ _ _ i) hQ _ _ _ _ _ _ i) hQ _ _ _ _ _ i
        · intro e7
          intro e8
          intro e9
          refine ⟨?_, ?_⟩
          · intro e10
            exact jfX12_ruled_59 (I := I) (gw_sub W (by decide)) (k6 := vX12_ruled_6 k65 Q n) (fun _ _ _ _ _ _ i => ih _ _ _ _ _ _ i) hQ _ _ _ _ _ _ i
          · intro e11
            exact jfX12_ruled_55 (I := I) (gw_sub W (by decide)) (k59 := vX12_ruled_59 (vX12_ruled_6 k65 Q n) Q) (fun _ _ _ _ _ _ i => jfX12_ruled_59 (I := I) (gw_sub W (by decide)) (k6 := vX12_ruled_6 k65 Q n) (fun _ _ _ _ _ _ i => ih _ _ _ _ _ _ i) hQ _ _ _ _ _ _ i) hQ _ _ _ _ _ i
end
section
def vX12_ruled_71 (Q : Int32 → km_S → Prop) : Nat → Int32 → Int32 → Int32 → Int32 → Int32 → Int32 → km_S → Prop
  | 0, _, _, _, _, _, _, _ => True
  | n + 1, l1, l2, l3, l4, l5, l6, μ => ((l4 = (-1) → Q l5 μ) ∧ (¬ (l4 = (-1)) → vp_in l4 6 → (((km_a μ 54 l4.toNatClampNeg) ≤ l6 → Q l5 μ) ∧ (¬ ((km_a μ 54 l4.toNatClampNeg) ≤ l6) → vp_in ((12 * l4) + l6) 72 → (((km_a μ 58 ((12 * l4) + l6).toNatClampNeg) = l1 → ∀ v15, v15 = (13 * l4) + l6 → vp_in v15 78 → vp_in (v15 + 1) 78 → vX12_told ((900 * l4) + (km_a μ 55 v15.toNatClampNeg)) ((900 * l4) + (km_a μ 55 (v15 + 1).toNatClampNeg)) l2 l3 μ (fun r19 μ18 => ((l1 = 0 → ((r19 = 0 → vX12_ruled_180 (vX12_ruled_182 (vX12_ruled_71 Q n) Q) Q l1 l2 l3 l4 l6 l5 μ18) ∧ (¬ (r19 = 0) → vX12_ruled_180 (vX12_ruled_182 (vX12_ruled_71 Q n) Q) Q l1 l2 l3 l4 l6 1 μ18))) ∧ (¬ (l1 = 0) → vX12_ruled_180 (vX12_ruled_182 (vX12_ruled_71 Q n) Q) Q l1 l2 l3 l4 l6 (l5 + r19) μ18)))) ∧ (¬ ((km_a μ 58 ((12 * l4) + l6).toNatClampNeg) = l1) → vX12_ruled_182 (vX12_ruled_71 Q n) Q l1 l2 l3 l4 l5 l6 μ))))))
set_option maxRecDepth 100000 in
set_option maxHeartbeats 4000000 in
theorem jcX12_ruled_71 {Q Q' Q'' : Int32 → km_S → Prop} (hQ : ∀ y0 y1, Q y0 y1 → Q' y0 y1 → Q'' y0 y1) : ∀ (n : Nat) (l1 : Int32) (l2 : Int32) (l3 : Int32) (l4 : Int32) (l5 : Int32) (l6 : Int32) (μ : km_S), wX12_ruled_71 Q n l1 l2 l3 l4 l5 l6 μ → vX12_ruled_71 Q' n l1 l2 l3 l4 l5 l6 μ → wX12_ruled_71 Q'' n l1 l2 l3 l4 l5 l6 μ := by
  intro n
  induction n with
  | zero => intro l1 l2 l3 l4 l5 l6 μ h; exact h.elim
  | succ n ih =>
    intro l1 l2 l3 l4 l5 l6 μ h v
    unfold wX12_ruled_71 at h
    unfold vX12_ruled_71 at v
    unfold wX12_ruled_71
    refine ⟨?_, ?_⟩
    · have h := h.1
      have v := v.1
      intro e1
      have h := h e1
      have v := v e1
      exact hQ _ _ h v
    · have h := h.2
      have v := v.2
      intro e2
      have h := h e2
      have v := v e2
      refine ⟨h.1, ?_⟩
      have v := v h.1
      have h := h.2
      refine ⟨?_, ?_⟩
      · have h := h.1
        have v := v.1
        intro e4
        have h := h e4
        have v := v e4
        exact hQ _ _ h v
      · have h := h.2
        have v := v.2
        intro e5
        have h := h e5
        have v := v e5
        refine ⟨h.1, ?_⟩
        have v := v h.1
        have h := h.2
        refine ⟨?_, ?_⟩
        · have h := h.1
          have v := v.1
          intro e7
          have h := h e7
          have v := v e7
          intro v15 e8
          have h := h v15 e8
          have v := v v15 e8
          refine ⟨h.1, ?_⟩
          have v := v h.1
          have h := h.2
          refine ⟨h.1, ?_⟩
          have v := v h.1
          have h := h.2
          refine jcX12_told ?_ _ _ _ _ _ h v
          intro r19 μ18 h v
          refine ⟨?_, ?_⟩
          · have h := h.1
            have v := v.1
            intro e11
            have h := h e11
            have v := v e11
            refine ⟨?_, ?_⟩
            · have h := h.1
              have v := v.1
              intro e12
              have h := h e12
              have v := v e12
              exact jcX12_ruled_180 (k182 := wX12_ruled_182 (wX12_ruled_71 Q n) Q) (k182' := vX12_ruled_182 (vX12_ruled_71 Q' n) Q') (k182'' := wX12_ruled_182 (wX12_ruled_71 Q'' n) Q'') (fun _ _ _ _ _ _ _ h v => jcX12_ruled_182 (k71 := wX12_ruled_71 Q n) (k71' := vX12_ruled_71 Q' n) (k71'' := wX12_ruled_71 Q'' n) (fun _ _ _ _ _ _ _ h v => ih _ _ _ _ _ _ _ h v) hQ _ _ _ _ _ _ _ h v) hQ _ _ _ _ _ _ _ h v
            · have h := h.2
              have v := v.2
              intro e13
              have h := h e13
              have v := v e13
              exact jcX12_ruled_180 (k182 := wX12_ruled_182 (wX12_ruled_71 Q n) Q) (k182' := vX12_ruled_182 (vX12_ruled_71 Q' n) Q') (k182'' := wX12_ruled_182 (wX12_ruled_71 Q'' n) Q'') (fun _ _ _ _ _ _ _ h v => jcX12_ruled_182 (k71 := wX12_ruled_71 Q n) (k71' := vX12_ruled_71 Q' n) (k71'' := wX12_ruled_71 Q'' n) (fun _ _ _ _ _ _ _ h v => ih _ _ _ _ _ _ _ h v) hQ _ _ _ _ _ _ _ h v) hQ _ _ _ _ _ _ _ h v
          · have h := h.2
            have v := v.2
            intro e14
            have h := h e14
            have v := v e14
            exact jcX12_ruled_180 (k182 := wX12_ruled_182 (wX12_ruled_71 Q n) Q) (k182' := vX12_ruled_182 (vX12_ruled_71 Q' n) Q') (k182'' := wX12_ruled_182 (wX12_ruled_71 Q'' n) Q'') (fun _ _ _ _ _ _ _ h v => jcX12_ruled_182 (k71 := wX12_ruled_71 Q n) (k71' := vX12_ruled_71 Q' n) (k71'' := wX12_ruled_71 Q'' n) (fun _ _ _ _ _ _ _ h v => ih _ _ _ _ _ _ _ h v) hQ _ _ _ _ _ _ _ h v) hQ _ _ _ _ _ _ _ h v
        · have h := h.2
          have v := v.2
          intro e15
          have h := h e15
          have v := v e15
          exact jcX12_ruled_182 (k71 := wX12_ruled_71 Q n) (k71' := vX12_ruled_71 Q' n) (k71'' := wX12_ruled_71 Q'' n) (fun _ _ _ _ _ _ _ h v => ih _ _ _ _ _ _ _ h v) hQ _ _ _ _ _ _ _ h v
set_option maxRecDepth 100000 in
set_option maxHeartbeats 4000000 in
theorem jaX12_ruled_71 {Q Q' : Int32 → km_S → Prop} (hQ : ∀ y0 y1, Q y0 y1 → Q' y0 y1) : ∀ (n m : Nat) (l1 : Int32) (l2 : Int32) (l3 : Int32) (l4 : Int32) (l5 : Int32) (l6 : Int32) (μ : km_S), wX12_ruled_71 Q n l1 l2 l3 l4 l5 l6 μ → vX12_ruled_71 Q' m l1 l2 l3 l4 l5 l6 μ := by
  intro n
  induction n with
  | zero => intro m l1 l2 l3 l4 l5 l6 μ h; exact h.elim
  | succ n ih =>
    intro m l1 l2 l3 l4 l5 l6 μ h
    cases m with
    | zero => exact trivial
    | succ m =>
      unfold wX12_ruled_71 at h
      unfold vX12_ruled_71
      refine ⟨?_, ?_⟩
      · have h := h.1
        intro e1
        have h := h e1
        exact hQ _ _ h
      · have h := h.2
        intro e2
        have h := h e2
        intro e3
        have h := h.2
        refine ⟨?_, ?_⟩
        · have h := h.1
          intro e4
          have h := h e4
          exact hQ _ _ h
        · have h := h.2
          intro e5
          have h := h e5
          intro e6
          have h := h.2
          refine ⟨?_, ?_⟩
          · have h := h.1
            intro e7
            have h := h e7
            intro v15 e8
            have h := h v15 e8
            intro e9
            have h := h.2
            intro e10
            have h := h.2
            refine jaX12_told ?_ _ _ _ _ _ h
            intro r19 μ18 h
            refine ⟨?_, ?_⟩
            · have h := h.1
              intro e11
              have h := h e11
              refine ⟨?_, ?_⟩
              · have h := h.1
                intro e12
                have h := h e12
                exact jaX12_ruled_180 (k182 := wX12_ruled_182 (wX12_ruled_71 Q n) Q) (k182' := vX12_ruled_182 (vX12_ruled_71 Q' m) Q') (fun _ _ _ _ _ _ _ h => jaX12_ruled_182 (k71 := wX12_ruled_71 Q n) (k71' := vX12_ruled_71 Q' m) (fun _ _ _ _ _ _ _ h => ih m _ _ _ _ _ _ _ h) hQ _ _ _ _ _ _ _ h) hQ _ _ _ _ _ _ _ h
              · have h := h.2
                intro e13
                have h := h e13
                exact jaX12_ruled_180 (k182 := wX12_ruled_182 (wX12_ruled_71 Q n) Q) (k182' := vX12_ruled_182 (vX12_ruled_71 Q' m) Q') (fun _ _ _ _ _ _ _ h => jaX12_ruled_182 (k71 := wX12_ruled_71 Q n) (k71' := vX12_ruled_71 Q' m) (fun _ _ _ _ _ _ _ h => ih m _ _ _ _ _ _ _ h) hQ _ _ _ _ _ _ _ h) hQ _ _ _ _ _ _ _ h
            · have h := h.2
              intro e14
              have h := h e14
              exact jaX12_ruled_180 (k182 := wX12_ruled_182 (wX12_ruled_71 Q n) Q) (k182' := vX12_ruled_182 (vX12_ruled_71 Q' m) Q') (fun _ _ _ _ _ _ _ h => jaX12_ruled_182 (k71 := wX12_ruled_71 Q n) (k71' := vX12_ruled_71 Q' m) (fun _ _ _ _ _ _ _ h => ih m _ _ _ _ _ _ _ h) hQ _ _ _ _ _ _ _ h) hQ _ _ _ _ _ _ _ h
          · have h := h.2
            intro e15
            have h := h e15
            exact jaX12_ruled_182 (k71 := wX12_ruled_71 Q n) (k71' := vX12_ruled_71 Q' m) (fun _ _ _ _ _ _ _ h => ih m _ _ _ _ _ _ _ h) hQ _ _ _ _ _ _ _ h
set_option maxRecDepth 100000 in
set_option maxHeartbeats 4000000 in
theorem jfX12_ruled_71 {I : km_S → Prop} (W : gw_ I [57, 68]) {Q : Int32 → km_S → Prop} (hQ : ∀ y0 y1, I y1 → Q y0 y1) : ∀ (n : Nat) (l1 : Int32) (l2 : Int32) (l3 : Int32) (l4 : Int32) (l5 : Int32) (l6 : Int32) (μ : km_S), I μ → vX12_ruled_71 Q n l1 l2 l3 l4 l5 l6 μ := by
  intro n
  induction n with
  | zero => intro l1 l2 l3 l4 l5 l6 μ i; exact trivial
  | succ n ih =>
    intro l1 l2 l3 l4 l5 l6 μ i
    unfold vX12_ruled_71
    refine ⟨?_, ?_⟩
    · intro e1
      exact hQ _ _ i
    · intro e2
      intro e3
      refine ⟨?_, ?_⟩
      · intro e4
        exact hQ _ _ i
      · intro e5
        intro e6
        refine ⟨?_, ?_⟩
        · intro e7
          intro v15 e8
          intro e9
          intro e10
          refine jfX12_told (I := I) (gw_sub W (by decide)) ?_ _ _ _ _ _ i
          intro r19 μ18 iμ18
          refine ⟨?_, ?_⟩
          · intro e11
            refine ⟨?_, ?_⟩
            · intro e12
              exact jfX12_ruled_180 (I := I) (gw_sub W (by decide)) (k182 := vX12_ruled_182 (vX12_ruled_71 Q n) Q) (fun _ _ _ _ _ _ _ i => jfX12_ruled_182 (I := I) (gw_sub W (by decide)) (k71 := vX12_ruled_71 Q n) (fun _ _ _ _ _ _ _ i => ih _ _ _ _ _ _ _ i) hQ _ _ _ _ _ _ _ i) hQ _ _ _ _ _ _ _ iμ18
            · intro e13
              exact jfX12_ruled_180 (I := I) (gw_sub W (by decide)) (k182 := vX12_ruled_182 (vX12_ruled_71 Q n) Q) (fun _ _ _ _ _ _ _ i => jfX12_ruled_182 (I := I) (gw_sub W (by decide)) (k71 := vX12_ruled_71 Q n) (fun _ _ _ _ _ _ _ i => ih _ _ _ _ _ _ _ i) hQ _ _ _ _ _ _ _ i) hQ _ _ _ _ _ _ _ iμ18
          · intro e14
            exact jfX12_ruled_180 (I := I) (gw_sub W (by decide)) (k182 := vX12_ruled_182 (vX12_ruled_71 Q n) Q) (fun _ _ _ _ _ _ _ i => jfX12_ruled_182 (I := I) (gw_sub W (by decide)) (k71 := vX12_ruled_71 Q n) (fun _ _ _ _ _ _ _ i => ih _ _ _ _ _ _ _ i) hQ _ _ _ _ _ _ _ i) hQ _ _ _ _ _ _ _ iμ18
        · intro e15
          exact jfX12_ruled_182 (I := I) (gw_sub W (by decide)) (k71 := vX12_ruled_71 Q n) (fun _ _ _ _ _ _ _ i => ih _ _ _ _ _ _ _ i) hQ _ _ _ _ _ _ _ i
def vX12_ruled_65 (Q : Int32 → km_S → Prop) (l1 : Int32) (l2 : Int32) (l3 : Int32) (l4 : Int32) (μ : km_S) : Prop := ∀ j, vX12_ruled_71 Q j l1 l2 l3 l4 0 0 μ
set_option maxRecDepth 100000 in
set_option maxHeartbeats 4000000 in
theorem jcX12_ruled_65 {Q Q' Q'' : Int32 → km_S → Prop} (hQ : ∀ y0 y1, Q y0 y1 → Q' y0 y1 → Q'' y0 y1) : ∀ (l1 : Int32) (l2 : Int32) (l3 : Int32) (l4 : Int32) (μ : km_S), wX12_ruled_65 Q l1 l2 l3 l4 μ → vX12_ruled_65 Q' l1 l2 l3 l4 μ → wX12_ruled_65 Q'' l1 l2 l3 l4 μ := by
  intro l1 l2 l3 l4 μ h v
  unfold wX12_ruled_65 at h
  unfold vX12_ruled_65 at v
  unfold wX12_ruled_65
  obtain ⟨j, h⟩ := h
  refine ⟨j, ?_⟩
  have v := v j
  exact jcX12_ruled_71 hQ _ _ _ _ _ _ _ _ h v
set_option maxRecDepth 100000 in
set_option maxHeartbeats 4000000 in
theorem jaX12_ruled_65 {Q Q' : Int32 → km_S → Prop} (hQ : ∀ y0 y1, Q y0 y1 → Q' y0 y1) : ∀ (l1 : Int32) (l2 : Int32) (l3 : Int32) (l4 : Int32) (μ : km_S), wX12_ruled_65 Q l1 l2 l3 l4 μ → vX12_ruled_65 Q' l1 l2 l3 l4 μ := by
  intro l1 l2 l3 l4 μ h
  unfold wX12_ruled_65 at h
  unfold vX12_ruled_65
  obtain ⟨j, h⟩ := h
  intro j9
  exact jaX12_ruled_71 hQ _ j9 _ _ _ _ _ _ _ h
set_option maxRecDepth 100000 in
set_option maxHeartbeats 4000000 in
theorem jfX12_ruled_65 {I : km_S → Prop} (W : gw_ I [57, 68]) {Q : Int32 → km_S → Prop} (hQ : ∀ y0 y1, I y1 → Q y0 y1) : ∀ (l1 : Int32) (l2 : Int32) (l3 : Int32) (l4 : Int32) (μ : km_S), I μ → vX12_ruled_65 Q l1 l2 l3 l4 μ := by
  intro l1 l2 l3 l4 μ i
  unfold vX12_ruled_65
  intro j
  exact jfX12_ruled_71 (I := I) (gw_sub W (by decide)) hQ _ _ _ _ _ _ _ _ i
def vX12_ruled (l1 : Int32) (l2 : Int32) (l3 : Int32) (μ : km_S) (Q : Int32 → km_S → Prop) : Prop := ∀ j, vX12_ruled_6 (vX12_ruled_65 Q) Q j l1 l2 l3 (-1) 0 μ
set_option maxRecDepth 100000 in
set_option maxHeartbeats 4000000 in
theorem jcX12_ruled {Q Q' Q'' : Int32 → km_S → Prop} (hQ : ∀ y0 y1, Q y0 y1 → Q' y0 y1 → Q'' y0 y1) : ∀ (l1 : Int32) (l2 : Int32) (l3 : Int32) (μ : km_S), wX12_ruled l1 l2 l3 μ Q → vX12_ruled l1 l2 l3 μ Q' → wX12_ruled l1 l2 l3 μ Q'' := by
  intro l1 l2 l3 μ h v
  unfold wX12_ruled at h
  unfold vX12_ruled at v
  unfold wX12_ruled
  obtain ⟨j, h⟩ := h
  refine ⟨j, ?_⟩
  have v := v j
  exact jcX12_ruled_6 (k65 := wX12_ruled_65 Q) (k65' := vX12_ruled_65 Q') (k65'' := wX12_ruled_65 Q'') (fun _ _ _ _ _ h v => jcX12_ruled_65 hQ _ _ _ _ _ h v) hQ _ _ _ _ _ _ _ h v
set_option maxRecDepth 100000 in
set_option maxHeartbeats 4000000 in
theorem jaX12_ruled {Q Q' : Int32 → km_S → Prop} (hQ : ∀ y0 y1, Q y0 y1 → Q' y0 y1) : ∀ (l1 : Int32) (l2 : Int32) (l3 : Int32) (μ : km_S), wX12_ruled l1 l2 l3 μ Q → vX12_ruled l1 l2 l3 μ Q' := by
  intro l1 l2 l3 μ h
  unfold wX12_ruled at h
  unfold vX12_ruled
  obtain ⟨j, h⟩ := h
  intro j9
  exact jaX12_ruled_6 (k65 := wX12_ruled_65 Q) (k65' := vX12_ruled_65 Q') (fun _ _ _ _ _ h => jaX12_ruled_65 hQ _ _ _ _ _ h) hQ _ j9 _ _ _ _ _ _ h
set_option maxRecDepth 100000 in
set_option maxHeartbeats 4000000 in
theorem jfX12_ruled {I : km_S → Prop} (W : gw_ I [57, 68]) {Q : Int32 → km_S → Prop} (hQ : ∀ y0 y1, I y1 → Q y0 y1) : ∀ (l1 : Int32) (l2 : Int32) (l3 : Int32) (μ : km_S), I μ → vX12_ruled l1 l2 l3 μ Q := by
  intro l1 l2 l3 μ i
  unfold vX12_ruled
  intro j
  exact jfX12_ruled_6 (I := I) (gw_sub W (by decide)) (k65 := vX12_ruled_65 Q) (fun _ _ _ _ _ i => jfX12_ruled_65 (I := I) (gw_sub W (by decide)) hQ _ _ _ _ _ i) hQ _ _ _ _ _ _ _ i
def vX12_let_22 (Q : Int32 → km_S → Prop) (μ : km_S) : Prop := vX12_fail μ (fun r2 μ1 => Q r2 μ1)
set_option maxRecDepth 100000 in
set_option maxHeartbeats 4000000 in
theorem jcX12_let_22 {Q Q' Q'' : Int32 → km_S → Prop} (hQ : ∀ y0 y1, Q y0 y1 → Q' y0 y1 → Q'' y0 y1) : ∀ (μ : km_S), wX12_let_22 Q μ → vX12_let_22 Q' μ → wX12_let_22 Q'' μ := by
  intro μ h v
  unfold wX12_let_22 at h
  unfold vX12_let_22 at v
  unfold wX12_let_22
  refine jcX12_fail ?_ _ h v
  intro r2 μ1 h v
  exact hQ _ _ h v
set_option maxRecDepth 100000 in
set_option maxHeartbeats 4000000 in
theorem jaX12_let_22 {Q Q' : Int32 → km_S → Prop} (hQ : ∀ y0 y1, Q y0 y1 → Q' y0 y1) : ∀ (μ : km_S), wX12_let_22 Q μ → vX12_let_22 Q' μ := by
  intro μ h
  unfold wX12_let_22 at h
  unfold vX12_let_22
  refine jaX12_fail ?_ _ h
  intro r2 μ1 h
  exact hQ _ _ h
set_option maxRecDepth 100000 in
set_option maxHeartbeats 4000000 in
theorem jfX12_let_22 {I : km_S → Prop} (W : gw_ I [1]) {Q : Int32 → km_S → Prop} (hQ : ∀ y0 y1, I y1 → Q y0 y1) : ∀ (μ : km_S), I μ → vX12_let_22 Q μ := by
  intro μ i
  unfold vX12_let_22
  refine jfX12_fail (I := I) (gw_sub W (by decide)) ?_ _ i
  intro r2 μ1 iμ1
  exact hQ _ _ iμ1
def vX12_let (l1 : Int32) (l2 : Int32) (l3 : Int32) (μ : km_S) (Q : Int32 → km_S → Prop) : Prop := ∀ μ3, μ3 = km_si μ 1 0 → vX12_isLog l1 μ3 (fun r5 μ4 => ((r5 = 0 → vX12_let_22 Q μ4) ∧ (¬ (r5 = 0) → vX12_isCell l2 l3 μ4 (fun r8 μ7 => ((¬ r8 = 0 → vp_in l1 400 → (((km_a μ7 38 l1.toNatClampNeg) = 0 → vX12_ruled 0 l1 l2 μ7 (fun r13 μ12 => ((r13 = 0 → vX12_isOpen l2 l3 μ12 (fun r16 μ15 => ((¬ r16 = 0 → vp_in l1 400 → ∀ μ19, μ19 = km_sa μ15 38 l1.toNatClampNeg 1 → vX12_lay l1 l2 l3 μ19 (fun μ20 => Q 0 μ20)) ∧ (r16 = 0 → Q 3 μ15)))) ∧ (¬ (r13 = 0) → Q 2 μ12)))) ∧ (¬ ((km_a μ7 38 l1.toNatClampNeg) = 0) → Q 1 μ7))) ∧ (r8 = 0 → vX12_let_22 Q μ7))))))
set_option maxRecDepth 100000 in
set_option maxHeartbeats 4000000 in
theorem jcX12_let {Q Q' Q'' : Int32 → km_S → Prop} (hQ : ∀ y0 y1, Q y0 y1 → Q' y0 y1 → Q'' y0 y1) : ∀ (l1 : Int32) (l2 : Int32) (l3 : Int32) (μ : km_S), wX12_let l1 l2 l3 μ Q → vX12_let l1 l2 l3 μ Q' → wX12_let l1 l2 l3 μ Q'' := by
  intro l1 l2 l3 μ h v
  unfold wX12_let at h
  unfold vX12_let at v
  unfold wX12_let
  intro μ3 e1
  have h := h μ3 e1
  have v := v μ3 e1
  refine jcX12_isLog ?_ _ _ h v
  intro r5 μ4 h v
  refine ⟨?_, ?_⟩
  · have h := h.1
    have v := v.1
    intro e2
    have h := h e2
    have v := v e2
    exact jcX12_let_22 hQ _ h v
  · have h := h.2
    have v := v.2
    intro e3
    have h := h e3
    have v := v e3
    refine jcX12_isCell ?_ _ _ _ h v
    intro r8 μ7 h v
    refine ⟨?_, ?_⟩
    · have h := h.1
      have v := v.1
      intro e4
      have h := h e4
      have v := v e4
      refine ⟨h.1, ?_⟩
      have v := v h.1
      have h := h.2
      refine ⟨?_, ?_⟩
      · have h := h.1
        have v := v.1
        intro e6
        have h := h e6
        have v := v e6
        refine jcX12_ruled ?_ _ _ _ _ h v
        intro r13 μ12 h v
        refine ⟨?_, ?_⟩
        · have h := h.1
          have v := v.1
          intro e7
          have h := h e7
          have v := v e7
          refine jcX12_isOpen ?_ _ _ _ h v
          intro r16 μ15 h v
          refine ⟨?_, ?_⟩
          · have h := h.1
            have v := v.1
            intro e8
            have h := h e8
            have v := v e8
            refine ⟨h.1, ?_⟩
            have v := v h.1
            have h := h.2
            intro μ19 e10
            have h := h μ19 e10
            have v := v μ19 e10
            refine jcX12_lay ?_ _ _ _ _ h v
            intro μ20 h v
            exact hQ _ _ h v
          · have h := h.2
            have v := v.2
            intro e11
            have h := h e11
            have v := v e11
            exact hQ _ _ h v
        · have h := h.2
          have v := v.2
          intro e12
          have h := h e12
          have v := v e12
          exact hQ _ _ h v
      · have h := h.2
        have v := v.2
        intro e13
        have h := h e13
        have v := v e13
        exact hQ _ _ h v
    · have h := h.2
      have v := v.2
      intro e14
      have h := h e14
      have v := v e14
      exact jcX12_let_22 hQ _ h v
set_option maxRecDepth 100000 in
set_option maxHeartbeats 4000000 in
theorem jaX12_let {Q Q' : Int32 → km_S → Prop} (hQ : ∀ y0 y1, Q y0 y1 → Q' y0 y1) : ∀ (l1 : Int32) (l2 : Int32) (l3 : Int32) (μ : km_S), wX12_let l1 l2 l3 μ Q → vX12_let l1 l2 l3 μ Q' := by
  intro l1 l2 l3 μ h
  unfold wX12_let at h
  unfold vX12_let
  intro μ3 e1
  have h := h μ3 e1
  refine jaX12_isLog ?_ _ _ h
  intro r5 μ4 h
  refine ⟨?_, ?_⟩
  · have h := h.1
    intro e2
    have h := h e2
    exact jaX12_let_22 hQ _ h
  · have h := h.2
    intro e3
    have h := h e3
    refine jaX12_isCell ?_ _ _ _ h
    intro r8 μ7 h
    refine ⟨?_, ?_⟩
    · have h := h.1
      intro e4
      have h := h e4
      intro e5
      have h := h.2
      refine ⟨?_, ?_⟩
      · have h := h.1
        intro e6
        have h := h e6
        refine jaX12_ruled ?_ _ _ _ _ h
        intro r13 μ12 h
        refine ⟨?_, ?_⟩
        · have h := h.1
          intro e7
          have h := h e7
          refine jaX12_isOpen ?_ _ _ _ h
          intro r16 μ15 h
          refine ⟨?_, ?_⟩
          · have h := h.1
            intro e8
            have h := h e8
            intro e9
            have h := h.2
            intro μ19 e10
            have h := h μ19 e10
            refine jaX12_lay ?_ _ _ _ _ h
            intro μ20 h
            exact hQ _ _ h
          · have h := h.2
            intro e11
            have h := h e11
            exact hQ _ _ h
        · have h := h.2
          intro e12
          have h := h e12
          exact hQ _ _ h
      · have h := h.2
        intro e13
        have h := h e13
        exact hQ _ _ h
    · have h := h.2
      intro e14
      have h := h e14
      exact jaX12_let_22 hQ _ h
set_option maxRecDepth 100000 in
set_option maxHeartbeats 4000000 in
theorem jfX12_let {I : km_S → Prop} (W : gw_ I [1, 31, 32, 38, 39, 40, 57, 68]) {Q : Int32 → km_S → Prop} (hQ : ∀ y0 y1, I y1 → Q y0 y1) : ∀ (l1 : Int32) (l2 : Int32) (l3 : Int32) (μ : km_S), I μ → vX12_let l1 l2 l3 μ Q := by
  intro l1 l2 l3 μ i
  unfold vX12_let
  intro μ3 e1
  have iμ3 : I μ3 := by rw [e1]; exact ((W _ i) 1 (by decide)).1 _
  refine jfX12_isLog (I := I) (gw_sub W (by decide)) ?_ _ _ iμ3
  intro r5 μ4 iμ4
  refine ⟨?_, ?_⟩
  · intro e2
    exact jfX12_let_22 (I := I) (gw_sub W (by decide)) hQ _ iμ4
  · intro e3
    refine jfX12_isCell (I := I) (gw_sub W (by decide)) ?_ _ _ _ iμ4
    intro r8 μ7 iμ7
    refine ⟨?_, ?_⟩
    · intro e4
      intro e5
      refine ⟨?_, ?_⟩
      · intro e6
        refine jfX12_ruled (I := I) (gw_sub W (by decide)) ?_ _ _ _ _ iμ7
        intro r13 μ12 iμ12
        refine ⟨?_, ?_⟩
        · intro e7
          refine jfX12_isOpen (I := I) (gw_sub W (by decide)) ?_ _ _ _ iμ12
          intro r16 μ15 iμ15
          refine ⟨?_, ?_⟩
          · intro e8
            intro e9
            intro μ19 e10
            have iμ19 : I μ19 := by rw [e10]; exact ((W _ iμ15) 38 (by decide)).2.1 _ _
            refine jfX12_lay (I := I) (gw_sub W (by decide)) ?_ _ _ _ _ iμ19
            intro μ20 iμ20
            exact hQ _ _ iμ20
          · intro e11
            exact hQ _ _ iμ15
        · intro e12
          exact hQ _ _ iμ12
      · intro e13
        exact hQ _ _ iμ7
    · intro e14
      exact jfX12_let_22 (I := I) (gw_sub W (by decide)) hQ _ iμ7
end
section
def vX12_waterGoes_215 (k35 : Int32 → km_S → Prop) (Q : km_S → Prop) (l1 : Int32) (μ : km_S) : Prop := ∀ v1 : Int32, v1 = l1 + (-1) → k35 v1 μ
set_option maxRecDepth 100000 in
set_option maxHeartbeats 4000000 in
theorem jcX12_waterGoes_215 {k35 k35' k35'' : Int32 → km_S → Prop} (hk35 : ∀ y0 y1, k35 y0 y1 → k35' y0 y1 → k35'' y0 y1) {Q Q' Q'' : km_S → Prop} (hQ : ∀ y0, Q y0 → Q' y0 → Q'' y0) : ∀ (l1 : Int32) (μ : km_S), wX12_waterGoes_215 k35 Q l1 μ → vX12_waterGoes_215 k35' Q' l1 μ → wX12_waterGoes_215 k35'' Q'' l1 μ := by
  intro l1 μ h v
  unfold wX12_waterGoes_215 at h
  unfold vX12_waterGoes_215 at v
  unfold wX12_waterGoes_215
  intro v1 e1
  have h := h v1 e1
  have v := v v1 e1
  exact hk35 _ _ h v
set_option maxRecDepth 100000 in
set_option maxHeartbeats 4000000 in
theorem jaX12_waterGoes_215 {k35 k35' : Int32 → km_S → Prop} (hk35 : ∀ y0 y1, k35 y0 y1 → k35' y0 y1) {Q Q' : km_S → Prop} (hQ : ∀ y0, Q y0 → Q' y0) : ∀ (l1 : Int32) (μ : km_S), wX12_waterGoes_215 k35 Q l1 μ → vX12_waterGoes_215 k35' Q' l1 μ := by
  intro l1 μ h
  unfold wX12_waterGoes_215 at h
  unfold vX12_waterGoes_215
  intro v1 e1
  have h := h v1 e1
  exact hk35 _ _ h
set_option maxRecDepth 100000 in
set_option maxHeartbeats 4000000 in
theorem jfX12_waterGoes_215 {I : km_S → Prop} (W : gw_ I []) {k35 : Int32 → km_S → Prop} (hk35 : ∀ y0 y1, I y1 → k35 y0 y1) {Q : km_S → Prop} (hQ : ∀ y0, I y0 → Q y0) : ∀ (l1 : Int32) (μ : km_S), I μ → vX12_waterGoes_215 k35 Q l1 μ := by
  intro l1 μ i
  unfold vX12_waterGoes_215
  intro v1 e1
  exact hk35 _ _ i
def vX12_waterGoes_2 (k28 : km_S → Prop) (Q : km_S → Prop) : Nat → Int32 → km_S → Prop
  | 0, _, _ => True
  | n + 1, l1, μ => (((km_i μ 3) ≤ l1 → k28 μ) ∧ (¬ ((km_i μ 3) ≤ l1) → vp_in l1 10 → vp_in l1 10 → ∀ μ5, μ5 = km_sa μ 20 l1.toNatClampNeg (km_a μ 17 l1.toNatClampNeg) → ∀ v6 : Int32, v6 = l1 + 1 → vX12_waterGoes_2 k28 Q n v6 μ5))
set_option maxRecDepth 100000 in
set_option maxHeartbeats 4000000 in
theorem jcX12_waterGoes_2 {k28 k28' k28'' : km_S → Prop} (hk28 : ∀ y0, k28 y0 → k28' y0 → k28'' y0) {Q Q' Q'' : km_S → Prop} (hQ : ∀ y0, Q y0 → Q' y0 → Q'' y0) : ∀ (n : Nat) (l1 : Int32) (μ : km_S), wX12_waterGoes_2 k28 Q n l1 μ → vX12_waterGoes_2 k28' Q' n l1 μ → wX12_waterGoes_2 k28'' Q'' n l1 μ := by
  intro n
  induction n with
  | zero => intro l1 μ h; exact h.elim
  | succ n ih =>
    intro l1 μ h v
    unfold wX12_waterGoes_2 at h
    unfold vX12_waterGoes_2 at v
    unfold wX12_waterGoes_2
    refine ⟨?_, ?_⟩
    · have h := h.1
      have v := v.1
      intro e1
      have h := h e1
      have v := v e1
      exact hk28 _ h v
    · have h := h.2
      have v := v.2
      intro e2
      have h := h e2
      have v := v e2
      refine ⟨h.1, ?_⟩
      have v := v h.1
      have h := h.2
      refine ⟨h.1, ?_⟩
      have v := v h.1
      have h := h.2
      intro μ5 e5
      have h := h μ5 e5
      have v := v μ5 e5
      intro v6 e6
      have h := h v6 e6
      have v := v v6 e6
      exact ih _ _ h v
set_option maxRecDepth 100000 in
set_option maxHeartbeats 4000000 in
theorem jaX12_waterGoes_2 {k28 k28' : km_S → Prop} (hk28 : ∀ y0, k28 y0 → k28' y0) {Q Q' : km_S → Prop} (hQ : ∀ y0, Q y0 → Q' y0) : ∀ (n m : Nat) (l1 : Int32) (μ : km_S), wX12_waterGoes_2 k28 Q n l1 μ → vX12_waterGoes_2 k28' Q' m l1 μ := by
  intro n
  induction n with
  | zero => intro m l1 μ h; exact h.elim
  | succ n ih =>
    intro m l1 μ h
    cases m with
    | zero => exact trivial
    | succ m =>
      unfold wX12_waterGoes_2 at h
      unfold vX12_waterGoes_2
      refine ⟨?_, ?_⟩
      · have h := h.1
        intro e1
        have h := h e1
        exact hk28 _ h
      · have h := h.2
        intro e2
        have h := h e2
        intro e3
        have h := h.2
        intro e4
        have h := h.2
        intro μ5 e5
        have h := h μ5 e5
        intro v6 e6
        have h := h v6 e6
        exact ih m _ _ h
set_option maxRecDepth 100000 in
set_option maxHeartbeats 4000000 in
theorem jfX12_waterGoes_2 {I : km_S → Prop} (W : gw_ I [20]) {k28 : km_S → Prop} (hk28 : ∀ y0, I y0 → k28 y0) {Q : km_S → Prop} (hQ : ∀ y0, I y0 → Q y0) : ∀ (n : Nat) (l1 : Int32) (μ : km_S), I μ → vX12_waterGoes_2 k28 Q n l1 μ := by
  intro n
  induction n with
  | zero => intro l1 μ i; exact trivial
  | succ n ih =>
    intro l1 μ i
    unfold vX12_waterGoes_2
    refine ⟨?_, ?_⟩
    · intro e1
      exact hk28 _ i
    · intro e2
      intro e3
      intro e4
      intro μ5 e5
      have iμ5 : I μ5 := by rw [e5]; exact ((W _ i) 20 (by decide)).2.1 _ _
      intro v6 e6
      exact ih _ _ iμ5
def vX12_waterGoes_166 (k35 : Int32 → km_S → Prop) (Q : km_S → Prop) (l1 : Int32) (μ : km_S) : Prop := vp_in l1 10 → ((¬ (km_a μ 13 l1.toNatClampNeg) = (-1) → vp_in l1 10 → vp_in (km_a μ 13 l1.toNatClampNeg) 10 → vp_in l1 10 → vp_in (km_a μ 13 l1.toNatClampNeg) 10 → ∀ μ13, μ13 = km_sa μ 20 (km_a μ 13 l1.toNatClampNeg).toNatClampNeg ((km_a μ 20 (km_a μ 13 l1.toNatClampNeg).toNatClampNeg) + (km_a μ 19 l1.toNatClampNeg)) → vX12_waterGoes_215 k35 Q l1 μ13) ∧ ((km_a μ 13 l1.toNatClampNeg) = (-1) → vp_in l1 10 → ∀ μ15, μ15 = km_sl μ 12 ((km_l μ 12) + ((km_a μ 19 l1.toNatClampNeg).toInt64)) → vX12_waterGoes_215 k35 Q l1 μ15))
set_option maxRecDepth 100000 in
set_option maxHeartbeats 4000000 in
theorem jcX12_waterGoes_166 {k35 k35' k35'' : Int32 → km_S → Prop} (hk35 : ∀ y0 y1, k35 y0 y1 → k35' y0 y1 → k35'' y0 y1) {Q Q' Q'' : km_S → Prop} (hQ : ∀ y0, Q y0 → Q' y0 → Q'' y0) : ∀ (l1 : Int32) (μ : km_S), wX12_waterGoes_166 k35 Q l1 μ → vX12_waterGoes_166 k35' Q' l1 μ → wX12_waterGoes_166 k35'' Q'' l1 μ := by
  intro l1 μ h v
  unfold wX12_waterGoes_166 at h
  unfold vX12_waterGoes_166 at v
  unfold wX12_waterGoes_166
  refine ⟨h.1, ?_⟩
  have v := v h.1
  have h := h.2
  refine ⟨?_, ?_⟩
  · have h := h.1
    have v := v.1
    intro e2
    have h := h e2
    have v := v e2
    refine ⟨h.1, ?_⟩
    have v := v h.1
    have h := h.2
    refine ⟨h.1, ?_⟩
    have v := v h.1
    have h := h.2
    refine ⟨h.1, ?_⟩
    have v := v h.1
    have h := h.2
    refine ⟨h.1, ?_⟩
    have v := v h.1
    have h := h.2
    intro μ13 e7
    have h := h μ13 e7
    have v := v μ13 e7
    exact jcX12_waterGoes_215 hk35 hQ _ _ h v
  · have h := h.2
    have v := v.2
    intro e8
    have h := h e8
    have v := v e8
    refine ⟨h.1, ?_⟩
    have v := v h.1
    have h := h.2
    intro μ15 e10
    have h := h μ15 e10
    have v := v μ15 e10
    exact jcX12_waterGoes_215 hk35 hQ _ _ h v
set_option maxRecDepth 100000 in
set_option maxHeartbeats 4000000 in
theorem jaX12_waterGoes_166 {k35 k35' : Int32 → km_S → Prop} (hk35 : ∀ y0 y1, k35 y0 y1 → k35' y0 y1) {Q Q' : km_S → Prop} (hQ : ∀ y0, Q y0 → Q' y0) : ∀ (l1 : Int32) (μ : km_S), wX12_waterGoes_166 k35 Q l1 μ → vX12_waterGoes_166 k35' Q' l1 μ := by
  intro l1 μ h
  unfold wX12_waterGoes_166 at h
  unfold vX12_waterGoes_166
  intro e1
  have h := h.2
  refine ⟨?_, ?_⟩
  · have h := h.1
    intro e2
    have h := h e2
    intro e3
    have h := h.2
    intro e4
    have h := h.2
    intro e5
    have h := h.2
    intro e6
    have h := h.2
    intro μ13 e7
    have h := h μ13 e7
    exact jaX12_waterGoes_215 hk35 hQ _ _ h
  · have h := h.2
    intro e8
    have h := h e8
    intro e9
    have h := h.2
    intro μ15 e10
    have h := h μ15 e10
    exact jaX12_waterGoes_215 hk35 hQ _ _ h
set_option maxRecDepth 100000 in
set_option maxHeartbeats 4000000 in
theorem jfX12_waterGoes_166 {I : km_S → Prop} (W : gw_ I [12, 20]) {k35 : Int32 → km_S → Prop} (hk35 : ∀ y0 y1, I y1 → k35 y0 y1) {Q : km_S → Prop} (hQ : ∀ y0, I y0 → Q y0) : ∀ (l1 : Int32) (μ : km_S), I μ → vX12_waterGoes_166 k35 Q l1 μ := by
  intro l1 μ i
  unfold vX12_waterGoes_166
  intro e1
  refine ⟨?_, ?_⟩
  · intro e2
    intro e3
    intro e4
    intro e5
    intro e6
    intro μ13 e7
    have iμ13 : I μ13 := by rw [e7]; exact ((W _ i) 20 (by decide)).2.1 _ _
    exact jfX12_waterGoes_215 (I := I) (gw_sub W (by decide)) hk35 hQ _ _ iμ13
  · intro e8
    intro e9
    intro μ15 e10
    have iμ15 : I μ15 := by rw [e10]; exact ((W _ i) 12 (by decide)).2.2.1 _
    exact jfX12_waterGoes_215 (I := I) (gw_sub W (by decide)) hk35 hQ _ _ iμ15
def vX12_waterGoes_35 (Q : km_S → Prop) : Nat → Int32 → km_S → Prop
  | 0, _, _ => True
  | n + 1, l1, μ => ((l1 < 0 → Q μ) ∧ (¬ (l1 < 0) → vp_in l1 10 → ∀ μ18, μ18 = km_sl μ 11 ((km_l μ 11) + ((km_a μ 17 l1.toNatClampNeg).toInt64)) → vp_in l1 10 → vp_in l1 10 → ∀ μ21, μ21 = km_sa μ18 18 l1.toNatClampNeg (km_a μ18 20 l1.toNatClampNeg) → vp_in l1 10 → vp_in l1 10 → ∀ μ24, μ24 = km_sa μ21 19 l1.toNatClampNeg (km_a μ21 20 l1.toNatClampNeg) → vp_in l1 10 → (((km_a μ24 21 l1.toNatClampNeg) = 0 → vX12_waterGoes_166 (vX12_waterGoes_35 Q n) Q l1 μ24) ∧ (¬ ((km_a μ24 21 l1.toNatClampNeg) = 0) → vp_in l1 10 → vp_in l1 10 → vp_in l1 10 → ∀ μ30, μ30 = km_sa μ24 25 l1.toNatClampNeg ((km_a μ24 25 l1.toNatClampNeg) + (km_a μ24 20 l1.toNatClampNeg)) → vp_in l1 10 → vp_in l1 10 → ∀ v33, v33 = (if 0 < ((km_a μ30 25 l1.toNatClampNeg) - (km_a μ30 24 l1.toNatClampNeg)) then ((km_a μ30 25 l1.toNatClampNeg) - (km_a μ30 24 l1.toNatClampNeg)) else 0) → vp_in l1 10 → vp_in l1 10 → ∀ μ36, μ36 = km_sa μ30 25 l1.toNatClampNeg ((km_a μ30 25 l1.toNatClampNeg) - v33) → vp_in l1 10 → vp_in l1 10 → ∀ v39, v39 = (if (km_a μ36 25 l1.toNatClampNeg) < (km_a μ36 26 l1.toNatClampNeg) then (km_a μ36 25 l1.toNatClampNeg) else (km_a μ36 26 l1.toNatClampNeg)) → vp_in l1 10 → vp_in l1 10 → ∀ μ42, μ42 = km_sa μ36 25 l1.toNatClampNeg ((km_a μ36 25 l1.toNatClampNeg) - v39) → vp_in l1 10 → ∀ μ44, μ44 = km_sa μ42 19 l1.toNatClampNeg (v39 + v33) → vX12_waterGoes_166 (vX12_waterGoes_35 Q n) Q l1 μ44))))
set_option maxRecDepth 100000 in
set_option maxHeartbeats 4000000 in
theorem jcX12_waterGoes_35 {Q Q' Q'' : km_S → Prop} (hQ : ∀ y0, Q y0 → Q' y0 → Q'' y0) : ∀ (n : Nat) (l1 : Int32) (μ : km_S), wX12_waterGoes_35 Q n l1 μ → vX12_waterGoes_35 Q' n l1 μ → wX12_waterGoes_35 Q'' n l1 μ := by
  intro n
  induction n with
  | zero => intro l1 μ h; exact h.elim
  | succ n ih =>
    intro l1 μ h v
    unfold wX12_waterGoes_35 at h
    unfold vX12_waterGoes_35 at v
    unfold wX12_waterGoes_35
    refine ⟨?_, ?_⟩
    · have h := h.1
      have v := v.1
      intro e1
      have h := h e1
      have v := v e1
      exact hQ _ h v
    · have h := h.2
      have v := v.2
      intro e2
      have h := h e2
      have v := v e2
      refine ⟨h.1, ?_⟩
      have v := v h.1
      have h := h.2
      intro μ18 e4
      have h := h μ18 e4
      have v := v μ18 e4
      refine ⟨h.1, ?_⟩
      have v := v h.1
      have h := h.2
      refine ⟨h.1, ?_⟩
      have v := v h.1
      have h := h.2
      intro μ21 e7
      have h := h μ21 e7
      have v := v μ21 e7
      refine ⟨h.1, ?_⟩
      have v := v h.1
      have h := h.2
      refine ⟨h.1, ?_⟩
      have v := v h.1
      have h := h.2
      intro μ24 e10
      have h := h μ24 e10
      have v := v μ24 e10
      refine ⟨h.1, ?_⟩
      have v := v h.1
      have h := h.2
      refine ⟨?_, ?_⟩
      · have h := h.1
        have v := v.1
        intro e12
        have h := h e12
        have v := v e12
        exact jcX12_waterGoes_166 (k35 := wX12_waterGoes_35 Q n) (k35' := vX12_waterGoes_35 Q' n) (k35'' := wX12_waterGoes_35 Q'' n) (fun _ _ h v => ih _ _ h v) hQ _ _ h v
      · have h := h.2
        have v := v.2
        intro e13
        have h := h e13
        have v := v e13
        refine ⟨h.1, ?_⟩
        have v := v h.1
        have h := h.2
        refine ⟨h.1, ?_⟩
        have v := v h.1
        have h := h.2
        refine ⟨h.1, ?_⟩
        have v := v h.1
        have h := h.2
        intro μ30 e17
        have h := h μ30 e17
        have v := v μ30 e17
        refine ⟨h.1, ?_⟩
        have v := v h.1
        have h := h.2
        refine ⟨h.1, ?_⟩
        have v := v h.1
        have h := h.2
        intro v33 e20
        have h := h v33 e20
        have v := v v33 e20
        refine ⟨h.1, ?_⟩
        have v := v h.1
        have h := h.2
        refine ⟨h.1, ?_⟩
        have v := v h.1
        have h := h.2
        intro μ36 e23
        have h := h μ36 e23
        have v := v μ36 e23
        refine ⟨h.1, ?_⟩
        have v := v h.1
        have h := h.2
        refine ⟨h.1, ?_⟩
        have v := v h.1
        have h := h.2
        intro v39 e26
        have h := h v39 e26
        have v := v v39 e26
        refine ⟨h.1, ?_⟩
        have v := v h.1
        have h := h.2
        refine ⟨h.1, ?_⟩
        have v := v h.1
        have h := h.2
        intro μ42 e29
        have h := h μ42 e29
        have v := v μ42 e29
        refine ⟨h.1, ?_⟩
        have v := v h.1
        have h := h.2
        intro μ44 e31
        have h := h μ44 e31
        have v := v μ44 e31
        exact jcX12_waterGoes_166 (k35 := wX12_waterGoes_35 Q n) (k35' := vX12_waterGoes_35 Q' n) (k35'' := wX12_waterGoes_35 Q'' n) (fun _ _ h v => ih _ _ h v) hQ _ _ h v
set_option maxRecDepth 100000 in
set_option maxHeartbeats 4000000 in
theorem jaX12_waterGoes_35 {Q Q' : km_S → Prop} (hQ : ∀ y0, Q y0 → Q' y0) : ∀ (n m : Nat) (l1 : Int32) (μ : km_S), wX12_waterGoes_35 Q n l1 μ → vX12_waterGoes_35 Q' m l1 μ := by
  intro n
  induction n with
  | zero => intro m l1 μ h; exact h.elim
  | succ n ih =>
    intro m l1 μ h
    cases m with
    | zero => exact trivial
    | succ m =>
      unfold wX12_waterGoes_35 at h
      unfold vX12_waterGoes_35
      refine ⟨?_, ?_⟩
      · have h := h.1
        intro e1
        have h := h e1
        exact hQ _ h
      · have h := h.2
        intro e2
        have h := h e2
        intro e3
        have h := h.2
        intro μ18 e4
        have h := h μ18 e4
        intro e5
        have h := h.2
        intro e6
        have h := h.2
        intro μ21 e7
        have h := h μ21 e7
        intro e8
        have h := h.2
        intro e9
        have h := h.2
        intro μ24 e10
        have h := h μ24 e10
        intro e11
        have h := h.2
        refine ⟨?_, ?_⟩
        · have h := h.1
          intro e12
          have h := h e12
          exact jaX12_waterGoes_166 (k35 := wX12_waterGoes_35 Q n) (k35' := vX12_waterGoes_35 Q' m) (fun _ _ h => ih m _ _ h) hQ _ _ h
        · have h := h.2
          intro e13
          have h := h e13
          intro e14
          have h := h.2
          intro e15
          have h := h.2
          intro e16
          have h := h.2
          intro μ30 e17
          have h := h μ30 e17
          intro e18
          have h := h.2
          intro e19
          have h := h.2
          intro v33 e20
          have h := h v33 e20
          intro e21
          have h := h.2
          intro e22
          have h := h.2
          intro μ36 e23
          have h := h μ36 e23
          intro e24
          have h := h.2
          intro e25
          have h := h.2
          intro v39 e26
          have h := h v39 e26
          intro e27
          have h := h.2
          intro e28
          have h := h.2
          intro μ42 e29
          have h := h μ42 e29
          intro e30
          have h := h.2
          intro μ44 e31
          have h := h μ44 e31
          exact jaX12_waterGoes_166 (k35 := wX12_waterGoes_35 Q n) (k35' := vX12_waterGoes_35 Q' m) (fun _ _ h => ih m _ _ h) hQ _ _ h
set_option maxRecDepth 100000 in
set_option maxHeartbeats 4000000 in
theorem jfX12_waterGoes_35 {I : km_S → Prop} (W : gw_ I [11, 12, 18, 19, 20, 25]) {Q : km_S → Prop} (hQ : ∀ y0, I y0 → Q y0) : ∀ (n : Nat) (l1 : Int32) (μ : km_S), I μ → vX12_waterGoes_35 Q n l1 μ := by
  intro n
  induction n with
  | zero => intro l1 μ i; exact trivial
  | succ n ih =>
    intro l1 μ i
    unfold vX12_waterGoes_35
    refine ⟨?_, ?_⟩
    · intro e1
      exact hQ _ i
    · intro e2
      intro e3
      intro μ18 e4
      have iμ18 : I μ18 := by rw [e4]; exact ((W _ i) 11 (by decide)).2.2.1 _
      intro e5
      intro e6
      intro μ21 e7
      have iμ21 : I μ21 := by rw [e7]; exact ((W _ iμ18) 18 (by decide)).2.1 _ _
      intro e8
      intro e9
      intro μ24 e10
      have iμ24 : I μ24 := by rw [e10]; exact ((W _ iμ21) 19 (by decide)).2.1 _ _
      intro e11
      refine ⟨?_, ?_⟩
      · intro e12
        exact jfX12_waterGoes_166 (I := I) (gw_sub W (by decide)) (k35 := vX12_waterGoes_35 Q n) (fun _ _ i => ih _ _ i) hQ _ _ iμ24
      · intro e13
        intro e14
        intro e15
        intro e16
        intro μ30 e17
        have iμ30 : I μ30 := by rw [e17]; exact ((W _ iμ24) 25 (by decide)).2.1 _ _
        intro e18
        intro e19
        intro v33 e20
        intro e21
        intro e22
        intro μ36 e23
        have iμ36 : I μ36 := by rw [e23]; exact ((W _ iμ30) 25 (by decide)).2.1 _ _
        intro e24
        intro e25
        intro v39 e26
        intro e27
        intro e28
        intro μ42 e29
        have iμ42 : I μ42 := by rw [e29]; exact ((W _ iμ36) 25 (by decide)).2.1 _ _
        intro e30
        intro μ44 e31
        have iμ44 : I μ44 := by rw [e31]; exact ((W _ iμ42) 19 (by decide)).2.1 _ _
        exact jfX12_waterGoes_166 (I := I) (gw_sub W (by decide)) (k35 := vX12_waterGoes_35 Q n) (fun _ _ i => ih _ _ i) hQ _ _ iμ44
def vX12_waterGoes_28 (Q : km_S → Prop) (μ : km_S) : Prop := ∀ v45, v45 = (km_i μ 3) - 1 → ∀ j, vX12_waterGoes_35 Q j v45 μ
set_option maxRecDepth 100000 in
set_option maxHeartbeats 4000000 in
theorem jcX12_waterGoes_28 {Q Q' Q'' : km_S → Prop} (hQ : ∀ y0, Q y0 → Q' y0 → Q'' y0) : ∀ (μ : km_S), wX12_waterGoes_28 Q μ → vX12_waterGoes_28 Q' μ → wX12_waterGoes_28 Q'' μ := by
  intro μ h v
  unfold wX12_waterGoes_28 at h
  unfold vX12_waterGoes_28 at v
  unfold wX12_waterGoes_28
  intro v45 e1
  have h := h v45 e1
  have v := v v45 e1
  obtain ⟨j, h⟩ := h
  refine ⟨j, ?_⟩
  have v := v j
  exact jcX12_waterGoes_35 hQ _ _ _ h v
set_option maxRecDepth 100000 in
set_option maxHeartbeats 4000000 in
theorem jaX12_waterGoes_28 {Q Q' : km_S → Prop} (hQ : ∀ y0, Q y0 → Q' y0) : ∀ (μ : km_S), wX12_waterGoes_28 Q μ → vX12_waterGoes_28 Q' μ := by
  intro μ h
  unfold wX12_waterGoes_28 at h
  unfold vX12_waterGoes_28
  intro v45 e1
  have h := h v45 e1
  obtain ⟨j, h⟩ := h
  intro j9
  exact jaX12_waterGoes_35 hQ _ j9 _ _ h
set_option maxRecDepth 100000 in
set_option maxHeartbeats 4000000 in
theorem jfX12_waterGoes_28 {I : km_S → Prop} (W : gw_ I [11, 12, 18, 19, 20, 25]) {Q : km_S → Prop} (hQ : ∀ y0, I y0 → Q y0) : ∀ (μ : km_S), I μ → vX12_waterGoes_28 Q μ := by
  intro μ i
  unfold vX12_waterGoes_28
  intro v45 e1
  intro j
  exact jfX12_waterGoes_35 (I := I) (gw_sub W (by decide)) hQ _ _ _ i
def vX12_waterGoes (μ : km_S) (Q : km_S → Prop) : Prop := ∀ j, vX12_waterGoes_2 (vX12_waterGoes_28 Q) Q j 0 μ
set_option maxRecDepth 100000 in
set_option maxHeartbeats 4000000 in
theorem jcX12_waterGoes {Q Q' Q'' : km_S → Prop} (hQ : ∀ y0, Q y0 → Q' y0 → Q'' y0) : ∀ (μ : km_S), wX12_waterGoes μ Q → vX12_waterGoes μ Q' → wX12_waterGoes μ Q'' := by
  intro μ h v
  unfold wX12_waterGoes at h
  unfold vX12_waterGoes at v
  unfold wX12_waterGoes
  obtain ⟨j, h⟩ := h
  refine ⟨j, ?_⟩
  have v := v j
  exact jcX12_waterGoes_2 (k28 := wX12_waterGoes_28 Q) (k28' := vX12_waterGoes_28 Q') (k28'' := wX12_waterGoes_28 Q'') (fun _ h v => jcX12_waterGoes_28 hQ _ h v) hQ _ _ _ h v
set_option maxRecDepth 100000 in
set_option maxHeartbeats 4000000 in
theorem jaX12_waterGoes {Q Q' : km_S → Prop} (hQ : ∀ y0, Q y0 → Q' y0) : ∀ (μ : km_S), wX12_waterGoes μ Q → vX12_waterGoes μ Q' := by
  intro μ h
  unfold wX12_waterGoes at h
  unfold vX12_waterGoes
  obtain ⟨j, h⟩ := h
  intro j9
  exact jaX12_waterGoes_2 (k28 := wX12_waterGoes_28 Q) (k28' := vX12_waterGoes_28 Q') (fun _ h => jaX12_waterGoes_28 hQ _ h) hQ _ j9 _ _ h
set_option maxRecDepth 100000 in
set_option maxHeartbeats 4000000 in
theorem jfX12_waterGoes {I : km_S → Prop} (W : gw_ I [11, 12, 18, 19, 20, 25]) {Q : km_S → Prop} (hQ : ∀ y0, I y0 → Q y0) : ∀ (μ : km_S), I μ → vX12_waterGoes μ Q := by
  intro μ i
  unfold vX12_waterGoes
  intro j
  exact jfX12_waterGoes_2 (I := I) (gw_sub W (by decide)) (k28 := vX12_waterGoes_28 Q) (fun _ i => jfX12_waterGoes_28 (I := I) (gw_sub W (by decide)) hQ _ i) hQ _ _ _ i
def vX12_leave_134 (Q : km_S → Prop) (l1 : Int32) (l2 : Int32) (μ : km_S) : Prop := vp_in l2 10 → ((¬ (km_a μ 13 l2.toNatClampNeg) = (-1) → vp_in l2 10 → vX12_isOpen (km_a μ 13 l2.toNatClampNeg) 0 μ (fun r5 μ4 => ((r5 = 0 → Q μ4) ∧ (¬ (r5 = 0) → vX12_lift l1 μ4 (fun μ7 => vp_in l2 10 → vX12_lay l1 (km_a μ7 13 l2.toNatClampNeg) 0 μ7 (fun μ9 => Q μ9)))))) ∧ ((km_a μ 13 l2.toNatClampNeg) = (-1) → vX12_lift l1 μ (fun μ10 => vp_in l1 400 → ∀ μ12, μ12 = km_sa μ10 38 l1.toNatClampNeg 4 → vp_in l1 400 → ∀ μ14, μ14 = km_sa μ12 39 l1.toNatClampNeg (-1) → vp_in l1 400 → ∀ μ16, μ16 = km_sa μ14 40 l1.toNatClampNeg (-1) → Q μ16)))
set_option maxRecDepth 100000 in
set_option maxHeartbeats 4000000 in
theorem jcX12_leave_134 {Q Q' Q'' : km_S → Prop} (hQ : ∀ y0, Q y0 → Q' y0 → Q'' y0) : ∀ (l1 : Int32) (l2 : Int32) (μ : km_S), wX12_leave_134 Q l1 l2 μ → vX12_leave_134 Q' l1 l2 μ → wX12_leave_134 Q'' l1 l2 μ := by
  intro l1 l2 μ h v
  unfold wX12_leave_134 at h
  unfold vX12_leave_134 at v
  unfold wX12_leave_134
  refine ⟨h.1, ?_⟩
  have v := v h.1
  have h := h.2
  refine ⟨?_, ?_⟩
  · have h := h.1
    have v := v.1
    intro e2
    have h := h e2
    have v := v e2
    refine ⟨h.1, ?_⟩
    have v := v h.1
    have h := h.2
    refine jcX12_isOpen ?_ _ _ _ h v
    intro r5 μ4 h v
    refine ⟨?_, ?_⟩
    · have h := h.1
      have v := v.1
      intro e4
      have h := h e4
      have v := v e4
      exact hQ _ h v
    · have h := h.2
      have v := v.2
      intro e5
      have h := h e5
      have v := v e5
      refine jcX12_lift ?_ _ _ h v
      intro μ7 h v
      refine ⟨h.1, ?_⟩
      have v := v h.1
      have h := h.2
      refine jcX12_lay ?_ _ _ _ _ h v
      intro μ9 h v
      exact hQ _ h v
  · have h := h.2
    have v := v.2
    intro e7
    have h := h e7
    have v := v e7
    refine jcX12_lift ?_ _ _ h v
    intro μ10 h v
    refine ⟨h.1, ?_⟩
    have v := v h.1
    have h := h.2
    intro μ12 e9
    have h := h μ12 e9
    have v := v μ12 e9
    refine ⟨h.1, ?_⟩
    have v := v h.1
    have h := h.2
    intro μ14 e11
    have h := h μ14 e11
    have v := v μ14 e11
    refine ⟨h.1, ?_⟩
    have v := v h.1
    have h := h.2
    intro μ16 e13
    have h := h μ16 e13
    have v := v μ16 e13
    exact hQ _ h v
set_option maxRecDepth 100000 in
set_option maxHeartbeats 4000000 in
theorem jaX12_leave_134 {Q Q' : km_S → Prop} (hQ : ∀ y0, Q y0 → Q' y0) : ∀ (l1 : Int32) (l2 : Int32) (μ : km_S), wX12_leave_134 Q l1 l2 μ → vX12_leave_134 Q' l1 l2 μ := by
  intro l1 l2 μ h
  unfold wX12_leave_134 at h
  unfold vX12_leave_134
  intro e1
  have h := h.2
  refine ⟨?_, ?_⟩
  · have h := h.1
    intro e2
    have h := h e2
    intro e3
    have h := h.2
    refine jaX12_isOpen ?_ _ _ _ h
    intro r5 μ4 h
    refine ⟨?_, ?_⟩
    · have h := h.1
      intro e4
      have h := h e4
      exact hQ _ h
    · have h := h.2
      intro e5
      have h := h e5
      refine jaX12_lift ?_ _ _ h
      intro μ7 h
      intro e6
      have h := h.2
      refine jaX12_lay ?_ _ _ _ _ h
      intro μ9 h
      exact hQ _ h
  · have h := h.2
    intro e7
    have h := h e7
    refine jaX12_lift ?_ _ _ h
    intro μ10 h
    intro e8
    have h := h.2
    intro μ12 e9
    have h := h μ12 e9
    intro e10
    have h := h.2
    intro μ14 e11
    have h := h μ14 e11
    intro e12
    have h := h.2
    intro μ16 e13
    have h := h μ16 e13
    exact hQ _ h
set_option maxRecDepth 100000 in
set_option maxHeartbeats 4000000 in
theorem jfX12_leave_134 {I : km_S → Prop} (W : gw_ I [31, 32, 38, 39, 40]) {Q : km_S → Prop} (hQ : ∀ y0, I y0 → Q y0) : ∀ (l1 : Int32) (l2 : Int32) (μ : km_S), I μ → vX12_leave_134 Q l1 l2 μ := by
  intro l1 l2 μ i
  unfold vX12_leave_134
  intro e1
  refine ⟨?_, ?_⟩
  · intro e2
    intro e3
    refine jfX12_isOpen (I := I) (gw_sub W (by decide)) ?_ _ _ _ i
    intro r5 μ4 iμ4
    refine ⟨?_, ?_⟩
    · intro e4
      exact hQ _ iμ4
    · intro e5
      refine jfX12_lift (I := I) (gw_sub W (by decide)) ?_ _ _ iμ4
      intro μ7 iμ7
      intro e6
      refine jfX12_lay (I := I) (gw_sub W (by decide)) ?_ _ _ _ _ iμ7
      intro μ9 iμ9
      exact hQ _ iμ9
  · intro e7
    refine jfX12_lift (I := I) (gw_sub W (by decide)) ?_ _ _ i
    intro μ10 iμ10
    intro e8
    intro μ12 e9
    have iμ12 : I μ12 := by rw [e9]; exact ((W _ iμ10) 38 (by decide)).2.1 _ _
    intro e10
    intro μ14 e11
    have iμ14 : I μ14 := by rw [e11]; exact ((W _ iμ12) 39 (by decide)).2.1 _ _
    intro e12
    intro μ16 e13
    have iμ16 : I μ16 := by rw [e13]; exact ((W _ iμ14) 40 (by decide)).2.1 _ _
    exact hQ _ iμ16
def vX12_leave_113 (Q : km_S → Prop) (l1 : Int32) (l2 : Int32) (μ : km_S) : Prop := vp_in l2 10 → (((km_a μ 21 l2.toNatClampNeg) = 0 → vX12_leave_134 Q l1 l2 μ) ∧ (¬ ((km_a μ 21 l2.toNatClampNeg) = 0) → vp_in l2 10 → ((50 ≤ (km_a μ 19 l2.toNatClampNeg) → vX12_leave_134 Q l1 l2 μ) ∧ (¬ (50 ≤ (km_a μ 19 l2.toNatClampNeg)) → Q μ))))
set_option maxRecDepth 100000 in
set_option maxHeartbeats 4000000 in
theorem jcX12_leave_113 {Q Q' Q'' : km_S → Prop} (hQ : ∀ y0, Q y0 → Q' y0 → Q'' y0) : ∀ (l1 : Int32) (l2 : Int32) (μ : km_S), wX12_leave_113 Q l1 l2 μ → vX12_leave_113 Q' l1 l2 μ → wX12_leave_113 Q'' l1 l2 μ := by
  intro l1 l2 μ h v
  unfold wX12_leave_113 at h
  unfold vX12_leave_113 at v
  unfold wX12_leave_113
  refine ⟨h.1, ?_⟩
  have v := v h.1
  have h := h.2
  refine ⟨?_, ?_⟩
  · have h := h.1
    have v := v.1
    intro e2
    have h := h e2
    have v := v e2
    exact jcX12_leave_134 hQ _ _ _ h v
  · have h := h.2
    have v := v.2
    intro e3
    have h := h e3
    have v := v e3
    refine ⟨h.1, ?_⟩
    have v := v h.1
    have h := h.2
    refine ⟨?_, ?_⟩
    · have h := h.1
      have v := v.1
      intro e5
      have h := h e5
      have v := v e5
      exact jcX12_leave_134 hQ _ _ _ h v
    · have h := h.2
      have v := v.2
      intro e6
      have h := h e6
      have v := v e6
      exact hQ _ h v
set_option maxRecDepth 100000 in
set_option maxHeartbeats 4000000 in
theorem jaX12_leave_113 {Q Q' : km_S → Prop} (hQ : ∀ y0, Q y0 → Q' y0) : ∀ (l1 : Int32) (l2 : Int32) (μ : km_S), wX12_leave_113 Q l1 l2 μ → vX12_leave_113 Q' l1 l2 μ := by
  intro l1 l2 μ h
  unfold wX12_leave_113 at h
  unfold vX12_leave_113
  intro e1
  have h := h.2
  refine ⟨?_, ?_⟩
  · have h := h.1
    intro e2
    have h := h e2
    exact jaX12_leave_134 hQ _ _ _ h
  · have h := h.2
    intro e3
    have h := h e3
    intro e4
    have h := h.2
    refine ⟨?_, ?_⟩
    · have h := h.1
      intro e5
      have h := h e5
      exact jaX12_leave_134 hQ _ _ _ h
    · have h := h.2
      intro e6
      have h := h e6
      exact hQ _ h
set_option maxRecDepth 100000 in
set_option maxHeartbeats 4000000 in
theorem jfX12_leave_113 {I : km_S → Prop} (W : gw_ I [31, 32, 38, 39, 40]) {Q : km_S → Prop} (hQ : ∀ y0, I y0 → Q y0) : ∀ (l1 : Int32) (l2 : Int32) (μ : km_S), I μ → vX12_leave_113 Q l1 l2 μ := by
  intro l1 l2 μ i
  unfold vX12_leave_113
  intro e1
  refine ⟨?_, ?_⟩
  · intro e2
    exact jfX12_leave_134 (I := I) (gw_sub W (by decide)) hQ _ _ _ i
  · intro e3
    intro e4
    refine ⟨?_, ?_⟩
    · intro e5
      exact jfX12_leave_134 (I := I) (gw_sub W (by decide)) hQ _ _ _ i
    · intro e6
      exact hQ _ i
def vX12_leave (l1 : Int32) (l2 : Int32) (μ : km_S) (Q : km_S → Prop) : Prop := vp_in l2 10 → (((km_a μ 22 l2.toNatClampNeg) = 0 → vX12_leave_113 Q l1 l2 μ) ∧ (¬ ((km_a μ 22 l2.toNatClampNeg) = 0) → vp_in l2 10 → vp_in l1 400 → ((¬ (((km_a μ 27 l2.toNatClampNeg) >>> ((km_a μ 35 l1.toNatClampNeg) &&& 31)) &&& 1) = 1 → vX12_leave_113 Q l1 l2 μ) ∧ ((((km_a μ 27 l2.toNatClampNeg) >>> ((km_a μ 35 l1.toNatClampNeg) &&& 31)) &&& 1) = 1 → vp_in l2 10 → vp_in l2 10 → (((km_a μ 29 l2.toNatClampNeg) < (km_a μ 28 l2.toNatClampNeg) → vX12_lift l1 μ (fun μ29 => vp_in l2 10 → vp_in ((100 * l2) + (km_a μ29 29 l2.toNatClampNeg)) 1000 → ∀ μ32, μ32 = km_sa μ29 30 ((100 * l2) + (km_a μ29 29 l2.toNatClampNeg)).toNatClampNeg l1 → vp_in l2 10 → vp_in l2 10 → ∀ μ35, μ35 = km_sa μ32 29 l2.toNatClampNeg ((km_a μ32 29 l2.toNatClampNeg) + 1) → vp_in l1 400 → ∀ μ37, μ37 = km_sa μ35 38 l1.toNatClampNeg 2 → vp_in l1 400 → ∀ μ39, μ39 = km_sa μ37 40 l1.toNatClampNeg (-1) → vp_in l1 400 → vp_in (km_a μ39 35 l1.toNatClampNeg) 16 → vX12_ruled 1 l1 l2 μ39 (fun r43 μ42 => vp_in (km_a μ39 35 l1.toNatClampNeg) 16 → ∀ μ45, μ45 = km_sp μ42 (km_a μ39 35 l1.toNatClampNeg).toNatClampNeg ((km_p μ39 (km_a μ39 35 l1.toNatClampNeg).toNatClampNeg) + r43.toInt64) → Q μ45))) ∧ (¬ ((km_a μ 29 l2.toNatClampNeg) < (km_a μ 28 l2.toNatClampNeg)) → Q μ))))))
set_option maxRecDepth 100000 in
set_option maxHeartbeats 4000000 in
theorem jcX12_leave {Q Q' Q'' : km_S → Prop} (hQ : ∀ y0, Q y0 → Q' y0 → Q'' y0) : ∀ (l1 : Int32) (l2 : Int32) (μ : km_S), wX12_leave l1 l2 μ Q → vX12_leave l1 l2 μ Q' → wX12_leave l1 l2 μ Q'' := by
  intro l1 l2 μ h v
  unfold wX12_leave at h
  unfold vX12_leave at v
  unfold wX12_leave
  refine ⟨h.1, ?_⟩
  have v := v h.1
  have h := h.2
  refine ⟨?_, ?_⟩
  · have h := h.1
    have v := v.1
    intro e2
    have h := h e2
    have v := v e2
    exact jcX12_leave_113 hQ _ _ _ h v
  · have h := h.2
    have v := v.2
    intro e3
    have h := h e3
    have v := v e3
    refine ⟨h.1, ?_⟩
    have v := v h.1
    have h := h.2
    refine ⟨h.1, ?_⟩
    have v := v h.1
    have h := h.2
    refine ⟨?_, ?_⟩
    · have h := h.1
      have v := v.1
      intro e6
      have h := h e6
      have v := v e6
      exact jcX12_leave_113 hQ _ _ _ h v
    · have h := h.2
      have v := v.2
      intro e7
      have h := h e7
      have v := v e7
      refine ⟨h.1, ?_⟩
      have v := v h.1
      have h := h.2
      refine ⟨h.1, ?_⟩
      have v := v h.1
      have h := h.2
      refine ⟨?_, ?_⟩
      · have h := h.1
        have v := v.1
        intro e10
        have h := h e10
        have v := v e10
        refine jcX12_lift ?_ _ _ h v
        intro μ29 h v
        refine ⟨h.1, ?_⟩
        have v := v h.1
        have h := h.2
        refine ⟨h.1, ?_⟩
        have v := v h.1
        have h := h.2
        intro μ32 e13
        have h := h μ32 e13
        have v := v μ32 e13
        refine ⟨h.1, ?_⟩
        have v := v h.1
        have h := h.2
        refine ⟨h.1, ?_⟩
        have v := v h.1
        have h := h.2
        intro μ35 e16
        have h := h μ35 e16
        have v := v μ35 e16
        refine ⟨h.1, ?_⟩
        have v := v h.1
        have h := h.2
        intro μ37 e18
        have h := h μ37 e18
        have v := v μ37 e18
        refine ⟨h.1, ?_⟩
        have v := v h.1
        have h := h.2
        intro μ39 e20
        have h := h μ39 e20
        have v := v μ39 e20
        refine ⟨h.1, ?_⟩
        have v := v h.1
        have h := h.2
        refine ⟨h.1, ?_⟩
        have v := v h.1
        have h := h.2
        refine jcX12_ruled ?_ _ _ _ _ h v
        intro r43 μ42 h v
        refine ⟨h.1, ?_⟩
        have v := v h.1
        have h := h.2
        intro μ45 e24
        have h := h μ45 e24
        have v := v μ45 e24
        exact hQ _ h v
      · have h := h.2
        have v := v.2
        intro e25
        have h := h e25
        have v := v e25
        exact hQ _ h v
set_option maxRecDepth 100000 in
set_option maxHeartbeats 4000000 in
theorem jaX12_leave {Q Q' : km_S → Prop} (hQ : ∀ y0, Q y0 → Q' y0) : ∀ (l1 : Int32) (l2 : Int32) (μ : km_S), wX12_leave l1 l2 μ Q → vX12_leave l1 l2 μ Q' := by
  intro l1 l2 μ h
  unfold wX12_leave at h
  unfold vX12_leave
  intro e1
  have h := h.2
  refine ⟨?_, ?_⟩
  · have h := h.1
    intro e2
    have h := h e2
    exact jaX12_leave_113 hQ _ _ _ h
  · have h := h.2
    intro e3
    have h := h e3
    intro e4
    have h := h.2
    intro e5
    have h := h.2
    refine ⟨?_, ?_⟩
    · have h := h.1
      intro e6
      have h := h e6
      exact jaX12_leave_113 hQ _ _ _ h
    · have h := h.2
      intro e7
      have h := h e7
      intro e8
      have h := h.2
      intro e9
      have h := h.2
      refine ⟨?_, ?_⟩
      · have h := h.1
        intro e10
        have h := h e10
        refine jaX12_lift ?_ _ _ h
        intro μ29 h
        intro e11
        have h := h.2
        intro e12
        have h := h.2
        intro μ32 e13
        have h := h μ32 e13
        intro e14
        have h := h.2
        intro e15
        have h := h.2
        intro μ35 e16
        have h := h μ35 e16
        intro e17
        have h := h.2
        intro μ37 e18
        have h := h μ37 e18
        intro e19
        have h := h.2
        intro μ39 e20
        have h := h μ39 e20
        intro e21
        have h := h.2
        intro e22
        have h := h.2
        refine jaX12_ruled ?_ _ _ _ _ h
        intro r43 μ42 h
        intro e23
        have h := h.2
        intro μ45 e24
        have h := h μ45 e24
        exact hQ _ h
      · have h := h.2
        intro e25
        have h := h e25
        exact hQ _ h
set_option maxRecDepth 100000 in
set_option maxHeartbeats 4000000 in
theorem jfX12_leave {I : km_S → Prop} (W : gw_ I [29, 30, 31, 32, 38, 39, 40, 57, 68, 1000]) {Q : km_S → Prop} (hQ : ∀ y0, I y0 → Q y0) : ∀ (l1 : Int32) (l2 : Int32) (μ : km_S), I μ → vX12_leave l1 l2 μ Q := by
  intro l1 l2 μ i
  unfold vX12_leave
  intro e1
  refine ⟨?_, ?_⟩
  · intro e2
    exact jfX12_leave_113 (I := I) (gw_sub W (by decide)) hQ _ _ _ i
  · intro e3
    intro e4
    intro e5
    refine ⟨?_, ?_⟩
    · intro e6
      exact jfX12_leave_113 (I := I) (gw_sub W (by decide)) hQ _ _ _ i
    · intro e7
      intro e8
      intro e9
      refine ⟨?_, ?_⟩
      · intro e10
        refine jfX12_lift (I := I) (gw_sub W (by decide)) ?_ _ _ i
        intro μ29 iμ29
        intro e11
        intro e12
        intro μ32 e13
        have iμ32 : I μ32 := by rw [e13]; exact ((W _ iμ29) 30 (by decide)).2.1 _ _
        intro e14
        intro e15
        intro μ35 e16
        have iμ35 : I μ35 := by rw [e16]; exact ((W _ iμ32) 29 (by decide)).2.1 _ _
        intro e17
        intro μ37 e18
        have iμ37 : I μ37 := by rw [e18]; exact ((W _ iμ35) 38 (by decide)).2.1 _ _
        intro e19
        intro μ39 e20
        have iμ39 : I μ39 := by rw [e20]; exact ((W _ iμ37) 40 (by decide)).2.1 _ _
        intro e21
        intro e22
        refine jfX12_ruled (I := I) (gw_sub W (by decide)) ?_ _ _ _ _ iμ39
        intro r43 μ42 iμ42
        intro e23
        intro μ45 e24
        have iμ45 : I μ45 := by rw [e24]; exact ((W _ iμ42) 1000 (by decide)).2.2.2 _ _
        exact hQ _ iμ45
      · intro e25
        exact hQ _ i
def vX12_go_98 (Q : km_S → Prop) (l1 : Int32) (l2 : Int32) (μ : km_S) : Prop := vX12_leave l1 l2 μ (fun μ1 => Q μ1)
set_option maxRecDepth 100000 in
set_option maxHeartbeats 4000000 in
theorem jcX12_go_98 {Q Q' Q'' : km_S → Prop} (hQ : ∀ y0, Q y0 → Q' y0 → Q'' y0) : ∀ (l1 : Int32) (l2 : Int32) (μ : km_S), wX12_go_98 Q l1 l2 μ → vX12_go_98 Q' l1 l2 μ → wX12_go_98 Q'' l1 l2 μ := by
  intro l1 l2 μ h v
  unfold wX12_go_98 at h
  unfold vX12_go_98 at v
  unfold wX12_go_98
  refine jcX12_leave ?_ _ _ _ h v
  intro μ1 h v
  exact hQ _ h v
set_option maxRecDepth 100000 in
set_option maxHeartbeats 4000000 in
theorem jaX12_go_98 {Q Q' : km_S → Prop} (hQ : ∀ y0, Q y0 → Q' y0) : ∀ (l1 : Int32) (l2 : Int32) (μ : km_S), wX12_go_98 Q l1 l2 μ → vX12_go_98 Q' l1 l2 μ := by
  intro l1 l2 μ h
  unfold wX12_go_98 at h
  unfold vX12_go_98
  refine jaX12_leave ?_ _ _ _ h
  intro μ1 h
  exact hQ _ h
set_option maxRecDepth 100000 in
set_option maxHeartbeats 4000000 in
theorem jfX12_go_98 {I : km_S → Prop} (W : gw_ I [29, 30, 31, 32, 38, 39, 40, 57, 68, 1000]) {Q : km_S → Prop} (hQ : ∀ y0, I y0 → Q y0) : ∀ (l1 : Int32) (l2 : Int32) (μ : km_S), I μ → vX12_go_98 Q l1 l2 μ := by
  intro l1 l2 μ i
  unfold vX12_go_98
  refine jfX12_leave (I := I) (gw_sub W (by decide)) ?_ _ _ _ i
  intro μ1 iμ1
  exact hQ _ iμ1
def vX12_go_25 (k98 : Int32 → Int32 → km_S → Prop) (Q : km_S → Prop) : Nat → Int32 → Int32 → Int32 → Int32 → km_S → Prop
  | 0, _, _, _, _, _ => True
  | n + 1, l1, l2, l3, l4, μ => ((l3 ≤ l4 → Q μ) ∧ (¬ (l3 ≤ l4) → vp_in l1 400 → ∀ v4, v4 = km_a μ 40 l1.toNatClampNeg → vX12_at0 l2 v4 μ (fun r6 μ5 => vp_in r6 120 → (((km_a μ5 33 r6.toNatClampNeg) = 0 → vp_in l2 10 → (((km_a μ5 14 l2.toNatClampNeg) ≤ (v4 + 1) → k98 l1 l2 μ5) ∧ (¬ ((km_a μ5 14 l2.toNatClampNeg) ≤ (v4 + 1)) → vX12_isOpen l2 (v4 + 1) μ5 (fun r12 μ11 => ((¬ r12 = 0 → vX12_lift l1 μ11 (fun μ14 => vX12_lay l1 l2 (v4 + 1) μ14 (fun μ15 => ∀ v16 : Int32, v16 = l4 + 1 → vX12_go_25 k98 Q n l1 l2 l3 v16 μ15))) ∧ (r12 = 0 → Q μ11)))))) ∧ (¬ ((km_a μ5 33 r6.toNatClampNeg) = 0) → Q μ5)))))
set_option maxRecDepth 100000 in
set_option maxHeartbeats 4000000 in
theorem jcX12_go_25 {k98 k98' k98'' : Int32 → Int32 → km_S → Prop} (hk98 : ∀ y0 y1 y2, k98 y0 y1 y2 → k98' y0 y1 y2 → k98'' y0 y1 y2) {Q Q' Q'' : km_S → Prop} (hQ : ∀ y0, Q y0 → Q' y0 → Q'' y0) : ∀ (n : Nat) (l1 : Int32) (l2 : Int32) (l3 : Int32) (l4 : Int32) (μ : km_S), wX12_go_25 k98 Q n l1 l2 l3 l4 μ → vX12_go_25 k98' Q' n l1 l2 l3 l4 μ → wX12_go_25 k98'' Q'' n l1 l2 l3 l4 μ := by
  intro n
  induction n with
  | zero => intro l1 l2 l3 l4 μ h; exact h.elim
  | succ n ih =>
    intro l1 l2 l3 l4 μ h v
    unfold wX12_go_25 at h
    unfold vX12_go_25 at v
    unfold wX12_go_25
    refine ⟨?_, ?_⟩
    · have h := h.1
      have v := v.1
      intro e1
      have h := h e1
      have v := v e1
      exact hQ _ h v
    · have h := h.2
      have v := v.2
      intro e2
      have h := h e2
      have v := v e2
      refine ⟨h.1, ?_⟩
      have v := v h.1
      have h := h.2
      intro v4 e4
      have h := h v4 e4
      have v := v v4 e4
      refine jcX12_at0 ?_ _ _ _ h v
      intro r6 μ5 h v
      refine ⟨h.1, ?_⟩
      have v := v h.1
      have h := h.2
      refine ⟨?_, ?_⟩
      · have h := h.1
        have v := v.1
        intro e6
        have h := h e6
        have v := v e6
        refine ⟨h.1, ?_⟩
        have v := v h.1
        have h := h.2
        refine ⟨?_, ?_⟩
        · have h := h.1
          have v := v.1
          intro e8
          have h := h e8
          have v := v e8
          exact hk98 _ _ _ h v
        · have h := h.2
          have v := v.2
          intro e9
          have h := h e9
          have v := v e9
          refine jcX12_isOpen ?_ _ _ _ h v
          intro r12 μ11 h v
          refine ⟨?_, ?_⟩
          · have h := h.1
            have v := v.1
            intro e10
            have h := h e10
            have v := v e10
            refine jcX12_lift ?_ _ _ h v
            intro μ14 h v
            refine jcX12_lay ?_ _ _ _ _ h v
            intro μ15 h v
            intro v16 e11
            have h := h v16 e11
            have v := v v16 e11
            exact ih _ _ _ _ _ h v
          · have h := h.2
            have v := v.2
            intro e12
            have h := h e12
            have v := v e12
            exact hQ _ h v
      · have h := h.2
        have v := v.2
        intro e13
        have h := h e13
        have v := v e13
        exact hQ _ h v
set_option maxRecDepth 100000 in
set_option maxHeartbeats 4000000 in
theorem jaX12_go_25 {k98 k98' : Int32 → Int32 → km_S → Prop} (hk98 : ∀ y0 y1 y2, k98 y0 y1 y2 → k98' y0 y1 y2) {Q Q' : km_S → Prop} (hQ : ∀ y0, Q y0 → Q' y0) : ∀ (n m : Nat) (l1 : Int32) (l2 : Int32) (l3 : Int32) (l4 : Int32) (μ : km_S), wX12_go_25 k98 Q n l1 l2 l3 l4 μ → vX12_go_25 k98' Q' m l1 l2 l3 l4 μ := by
  intro n
  induction n with
  | zero => intro m l1 l2 l3 l4 μ h; exact h.elim
  | succ n ih =>
    intro m l1 l2 l3 l4 μ h
    cases m with
    | zero => exact trivial
    | succ m =>
      unfold wX12_go_25 at h
      unfold vX12_go_25
      refine ⟨?_, ?_⟩
      · have h := h.1
        intro e1
        have h := h e1
        exact hQ _ h
      · have h := h.2
        intro e2
        have h := h e2
        intro e3
        have h := h.2
        intro v4 e4
        have h := h v4 e4
        refine jaX12_at0 ?_ _ _ _ h
        intro r6 μ5 h
        intro e5
        have h := h.2
        refine ⟨?_, ?_⟩
        · have h := h.1
          intro e6
          have h := h e6
          intro e7
          have h := h.2
          refine ⟨?_, ?_⟩
          · have h := h.1
            intro e8
            have h := h e8
            exact hk98 _ _ _ h
          · have h := h.2
            intro e9
            have h := h e9
            refine jaX12_isOpen ?_ _ _ _ h
            intro r12 μ11 h
            refine ⟨?_, ?_⟩
            · have h := h.1
              intro e10
              have h := h e10
              refine jaX12_lift ?_ _ _ h
              intro μ14 h
              refine jaX12_lay ?_ _ _ _ _ h
              intro μ15 h
              intro v16 e11
              have h := h v16 e11
              exact ih m _ _ _ _ _ h
            · have h := h.2
              intro e12
              have h := h e12
              exact hQ _ h
        · have h := h.2
          intro e13
          have h := h e13
          exact hQ _ h
set_option maxRecDepth 100000 in
set_option maxHeartbeats 4000000 in
theorem jfX12_go_25 {I : km_S → Prop} (W : gw_ I [31, 32, 39, 40]) {k98 : Int32 → Int32 → km_S → Prop} (hk98 : ∀ y0 y1 y2, I y2 → k98 y0 y1 y2) {Q : km_S → Prop} (hQ : ∀ y0, I y0 → Q y0) : ∀ (n : Nat) (l1 : Int32) (l2 : Int32) (l3 : Int32) (l4 : Int32) (μ : km_S), I μ → vX12_go_25 k98 Q n l1 l2 l3 l4 μ := by
  intro n
  induction n with
  | zero => intro l1 l2 l3 l4 μ i; exact trivial
  | succ n ih =>
    intro l1 l2 l3 l4 μ i
    unfold vX12_go_25
    refine ⟨?_, ?_⟩
    · intro e1
      exact hQ _ i
    · intro e2
      intro e3
      intro v4 e4
      refine jfX12_at0 (I := I) (gw_sub W (by decide)) ?_ _ _ _ i
      intro r6 μ5 iμ5
      intro e5
      refine ⟨?_, ?_⟩
      · intro e6
        intro e7
        refine ⟨?_, ?_⟩
        · intro e8
          exact hk98 _ _ _ iμ5
        · intro e9
          refine jfX12_isOpen (I := I) (gw_sub W (by decide)) ?_ _ _ _ iμ5
          intro r12 μ11 iμ11
          refine ⟨?_, ?_⟩
          · intro e10
            refine jfX12_lift (I := I) (gw_sub W (by decide)) ?_ _ _ iμ11
            intro μ14 iμ14
            refine jfX12_lay (I := I) (gw_sub W (by decide)) ?_ _ _ _ _ iμ14
            intro μ15 iμ15
            intro v16 e11
            exact ih _ _ _ _ _ iμ15
          · intro e12
            exact hQ _ iμ11
      · intro e13
        exact hQ _ iμ5
def vX12_go (l1 : Int32) (μ : km_S) (Q : km_S → Prop) : Prop := vp_in l1 400 → ∀ v18, v18 = km_a μ 39 l1.toNatClampNeg → vp_in v18 10 → ∀ v20, v20 = (if ((km_a μ 18 v18.toNatClampNeg) / 100) < 6 then ((km_a μ 18 v18.toNatClampNeg) / 100) else 6) → ∀ j, vX12_go_25 (vX12_go_98 Q) Q j l1 v18 v20 0 μ
set_option maxRecDepth 100000 in
set_option maxHeartbeats 4000000 in
theorem jcX12_go {Q Q' Q'' : km_S → Prop} (hQ : ∀ y0, Q y0 → Q' y0 → Q'' y0) : ∀ (l1 : Int32) (μ : km_S), wX12_go l1 μ Q → vX12_go l1 μ Q' → wX12_go l1 μ Q'' := by
  intro l1 μ h v
  unfold wX12_go at h
  unfold vX12_go at v
  unfold wX12_go
  refine ⟨h.1, ?_⟩
  have v := v h.1
  have h := h.2
  intro v18 e2
  have h := h v18 e2
  have v := v v18 e2
  refine ⟨h.1, ?_⟩
  have v := v h.1
  have h := h.2
  intro v20 e4
  have h := h v20 e4
  have v := v v20 e4
  obtain ⟨j, h⟩ := h
  refine ⟨j, ?_⟩
  have v := v j
  exact jcX12_go_25 (k98 := wX12_go_98 Q) (k98' := vX12_go_98 Q') (k98'' := wX12_go_98 Q'') (fun _ _ _ h v => jcX12_go_98 hQ _ _ _ h v) hQ _ _ _ _ _ _ h v
set_option maxRecDepth 100000 in
set_option maxHeartbeats 4000000 in
theorem jaX12_go {Q Q' : km_S → Prop} (hQ : ∀ y0, Q y0 → Q' y0) : ∀ (l1 : Int32) (μ : km_S), wX12_go l1 μ Q → vX12_go l1 μ Q' := by
  intro l1 μ h
  unfold wX12_go at h
  unfold vX12_go
  intro e1
  have h := h.2
  intro v18 e2
  have h := h v18 e2
  intro e3
  have h := h.2
  intro v20 e4
  have h := h v20 e4
  obtain ⟨j, h⟩ := h
  intro j9
  exact jaX12_go_25 (k98 := wX12_go_98 Q) (k98' := vX12_go_98 Q') (fun _ _ _ h => jaX12_go_98 hQ _ _ _ h) hQ _ j9 _ _ _ _ _ h
set_option maxRecDepth 100000 in
set_option maxHeartbeats 4000000 in
theorem jfX12_go {I : km_S → Prop} (W : gw_ I [29, 30, 31, 32, 38, 39, 40, 57, 68, 1000]) {Q : km_S → Prop} (hQ : ∀ y0, I y0 → Q y0) : ∀ (l1 : Int32) (μ : km_S), I μ → vX12_go l1 μ Q := by
  intro l1 μ i
  unfold vX12_go
  intro e1
  intro v18 e2
  intro e3
  intro v20 e4
  intro j
  exact jfX12_go_25 (I := I) (gw_sub W (by decide)) (k98 := vX12_go_98 Q) (fun _ _ _ i => jfX12_go_98 (I := I) (gw_sub W (by decide)) hQ _ _ _ i) hQ _ _ _ _ _ _ i
end
section
def vX12_move_105 (k2 : Int32 → km_S → Prop) (Q : km_S → Prop) (l1 : Int32) (μ : km_S) : Prop := ∀ v1 : Int32, v1 = l1 + 1 → k2 v1 μ
set_option maxRecDepth 100000 in
set_option maxHeartbeats 4000000 in
theorem jcX12_move_105 {k2 k2' k2'' : Int32 → km_S → Prop} (hk2 : ∀ y0 y1, k2 y0 y1 → k2' y0 y1 → k2'' y0 y1) {Q Q' Q'' : km_S → Prop} (hQ : ∀ y0, Q y0 → Q' y0 → Q'' y0) : ∀ (l1 : Int32) (μ : km_S), wX12_move_105 k2 Q l1 μ → vX12_move_105 k2' Q' l1 μ → wX12_move_105 k2'' Q'' l1 μ := by
  intro l1 μ h v
  unfold wX12_move_105 at h
  unfold vX12_move_105 at v
  unfold wX12_move_105
  intro v1 e1
  have h := h v1 e1
  have v := v v1 e1
  exact hk2 _ _ h v
set_option maxRecDepth 100000 in
set_option maxHeartbeats 4000000 in
theorem jaX12_move_105 {k2 k2' : Int32 → km_S → Prop} (hk2 : ∀ y0 y1, k2 y0 y1 → k2' y0 y1) {Q Q' : km_S → Prop} (hQ : ∀ y0, Q y0 → Q' y0) : ∀ (l1 : Int32) (μ : km_S), wX12_move_105 k2 Q l1 μ → vX12_move_105 k2' Q' l1 μ := by
  intro l1 μ h
  unfold wX12_move_105 at h
  unfold vX12_move_105
  intro v1 e1
  have h := h v1 e1
  exact hk2 _ _ h
set_option maxRecDepth 100000 in
set_option maxHeartbeats 4000000 in
theorem jfX12_move_105 {I : km_S → Prop} (W : gw_ I []) {k2 : Int32 → km_S → Prop} (hk2 : ∀ y0 y1, I y1 → k2 y0 y1) {Q : km_S → Prop} (hQ : ∀ y0, I y0 → Q y0) : ∀ (l1 : Int32) (μ : km_S), I μ → vX12_move_105 k2 Q l1 μ := by
  intro l1 μ i
  unfold vX12_move_105
  intro v1 e1
  exact hk2 _ _ i
def vX12_move_99 (k19 : Int32 → Int32 → km_S → Prop) (Q : km_S → Prop) (l1 : Int32) (l2 : Int32) (μ : km_S) : Prop := ∀ v2 : Int32, v2 = l2 + (-1) → k19 l1 v2 μ
set_option maxRecDepth 100000 in
set_option maxHeartbeats 4000000 in
theorem jcX12_move_99 {k19 k19' k19'' : Int32 → Int32 → km_S → Prop} (hk19 : ∀ y0 y1 y2, k19 y0 y1 y2 → k19' y0 y1 y2 → k19'' y0 y1 y2) {Q Q' Q'' : km_S → Prop} (hQ : ∀ y0, Q y0 → Q' y0 → Q'' y0) : ∀ (l1 : Int32) (l2 : Int32) (μ : km_S), wX12_move_99 k19 Q l1 l2 μ → vX12_move_99 k19' Q' l1 l2 μ → wX12_move_99 k19'' Q'' l1 l2 μ := by
  intro l1 l2 μ h v
  unfold wX12_move_99 at h
  unfold vX12_move_99 at v
  unfold wX12_move_99
  intro v2 e1
  have h := h v2 e1
  have v := v v2 e1
  exact hk19 _ _ _ h v
set_option maxRecDepth 100000 in
set_option maxHeartbeats 4000000 in
theorem jaX12_move_99 {k19 k19' : Int32 → Int32 → km_S → Prop} (hk19 : ∀ y0 y1 y2, k19 y0 y1 y2 → k19' y0 y1 y2) {Q Q' : km_S → Prop} (hQ : ∀ y0, Q y0 → Q' y0) : ∀ (l1 : Int32) (l2 : Int32) (μ : km_S), wX12_move_99 k19 Q l1 l2 μ → vX12_move_99 k19' Q' l1 l2 μ := by
  intro l1 l2 μ h
  unfold wX12_move_99 at h
  unfold vX12_move_99
  intro v2 e1
  have h := h v2 e1
  exact hk19 _ _ _ h
set_option maxRecDepth 100000 in
set_option maxHeartbeats 4000000 in
theorem jfX12_move_99 {I : km_S → Prop} (W : gw_ I []) {k19 : Int32 → Int32 → km_S → Prop} (hk19 : ∀ y0 y1 y2, I y2 → k19 y0 y1 y2) {Q : km_S → Prop} (hQ : ∀ y0, I y0 → Q y0) : ∀ (l1 : Int32) (l2 : Int32) (μ : km_S), I μ → vX12_move_99 k19 Q l1 l2 μ := by
  intro l1 l2 μ i
  unfold vX12_move_99
  intro v2 e1
  exact hk19 _ _ _ i
def vX12_move_75 (k99 : Int32 → Int32 → km_S → Prop) (Q : km_S → Prop) : Nat → Int32 → Int32 → Int32 → Int32 → km_S → Prop
  | 0, _, _, _, _, _ => True
  | n + 1, l1, l2, l4, l5, μ => ((l4 ≤ l5 → k99 l1 l2 μ) ∧ (¬ (l4 ≤ l5) → vp_in l5 20 → vX12_go (km_a μ 69 l5.toNatClampNeg) μ (fun μ5 => ∀ v6 : Int32, v6 = l5 + 1 → vX12_move_75 k99 Q n l1 l2 l4 v6 μ5)))
set_option maxRecDepth 100000 in
set_option maxHeartbeats 4000000 in
theorem jcX12_move_75 {k99 k99' k99'' : Int32 → Int32 → km_S → Prop} (hk99 : ∀ y0 y1 y2, k99 y0 y1 y2 → k99' y0 y1 y2 → k99'' y0 y1 y2) {Q Q' Q'' : km_S → Prop} (hQ : ∀ y0, Q y0 → Q' y0 → Q'' y0) : ∀ (n : Nat) (l1 : Int32) (l2 : Int32) (l4 : Int32) (l5 : Int32) (μ : km_S), wX12_move_75 k99 Q n l1 l2 l4 l5 μ → vX12_move_75 k99' Q' n l1 l2 l4 l5 μ → wX12_move_75 k99'' Q'' n l1 l2 l4 l5 μ := by
  intro n
  induction n with
  | zero => intro l1 l2 l4 l5 μ h; exact h.elim
  | succ n ih =>
    intro l1 l2 l4 l5 μ h v
    unfold wX12_move_75 at h
    unfold vX12_move_75 at v
    unfold wX12_move_75
    refine ⟨?_, ?_⟩
    · have h := h.1
      have v := v.1
      intro e1
      have h := h e1
      have v := v e1
      exact hk99 _ _ _ h v
    · have h := h.2
      have v := v.2
      intro e2
      have h := h e2
      have v := v e2
      refine ⟨h.1, ?_⟩
      have v := v h.1
      have h := h.2
      refine jcX12_go ?_ _ _ h v
      intro μ5 h v
      intro v6 e4
      have h := h v6 e4
      have v := v v6 e4
      exact ih _ _ _ _ _ h v
set_option maxRecDepth 100000 in
set_option maxHeartbeats 4000000 in
theorem jaX12_move_75 {k99 k99' : Int32 → Int32 → km_S → Prop} (hk99 : ∀ y0 y1 y2, k99 y0 y1 y2 → k99' y0 y1 y2) {Q Q' : km_S → Prop} (hQ : ∀ y0, Q y0 → Q' y0) : ∀ (n m : Nat) (l1 : Int32) (l2 : Int32) (l4 : Int32) (l5 : Int32) (μ : km_S), wX12_move_75 k99 Q n l1 l2 l4 l5 μ → vX12_move_75 k99' Q' m l1 l2 l4 l5 μ := by
  intro n
  induction n with
  | zero => intro m l1 l2 l4 l5 μ h; exact h.elim
  | succ n ih =>
    intro m l1 l2 l4 l5 μ h
    cases m with
    | zero => exact trivial
    | succ m =>
      unfold wX12_move_75 at h
      unfold vX12_move_75
      refine ⟨?_, ?_⟩
      · have h := h.1
        intro e1
        have h := h e1
        exact hk99 _ _ _ h
      · have h := h.2
        intro e2
        have h := h e2
        intro e3
        have h := h.2
        refine jaX12_go ?_ _ _ h
        intro μ5 h
        intro v6 e4
        have h := h v6 e4
        exact ih m _ _ _ _ _ h
set_option maxRecDepth 100000 in
set_option maxHeartbeats 4000000 in
theorem jfX12_move_75 {I : km_S → Prop} (W : gw_ I [29, 30, 31, 32, 38, 39, 40, 57, 68, 1000]) {k99 : Int32 → Int32 → km_S → Prop} (hk99 : ∀ y0 y1 y2, I y2 → k99 y0 y1 y2) {Q : km_S → Prop} (hQ : ∀ y0, I y0 → Q y0) : ∀ (n : Nat) (l1 : Int32) (l2 : Int32) (l4 : Int32) (l5 : Int32) (μ : km_S), I μ → vX12_move_75 k99 Q n l1 l2 l4 l5 μ := by
  intro n
  induction n with
  | zero => intro l1 l2 l4 l5 μ i; exact trivial
  | succ n ih =>
    intro l1 l2 l4 l5 μ i
    unfold vX12_move_75
    refine ⟨?_, ?_⟩
    · intro e1
      exact hk99 _ _ _ i
    · intro e2
      intro e3
      refine jfX12_go (I := I) (gw_sub W (by decide)) ?_ _ _ i
      intro μ5 iμ5
      intro v6 e4
      exact ih _ _ _ _ _ iμ5
def vX12_move_72 (k19 : Int32 → Int32 → km_S → Prop) (Q : km_S → Prop) (l1 : Int32) (l2 : Int32) (l4 : Int32) (μ : km_S) : Prop := ∀ j, vX12_move_75 (vX12_move_99 k19 Q) Q j l1 l2 l4 0 μ
set_option maxRecDepth 100000 in
set_option maxHeartbeats 4000000 in
theorem jcX12_move_72 {k19 k19' k19'' : Int32 → Int32 → km_S → Prop} (hk19 : ∀ y0 y1 y2, k19 y0 y1 y2 → k19' y0 y1 y2 → k19'' y0 y1 y2) {Q Q' Q'' : km_S → Prop} (hQ : ∀ y0, Q y0 → Q' y0 → Q'' y0) : ∀ (l1 : Int32) (l2 : Int32) (l4 : Int32) (μ : km_S), wX12_move_72 k19 Q l1 l2 l4 μ → vX12_move_72 k19' Q' l1 l2 l4 μ → wX12_move_72 k19'' Q'' l1 l2 l4 μ := by
  intro l1 l2 l4 μ h v
  unfold wX12_move_72 at h
  unfold vX12_move_72 at v
  unfold wX12_move_72
  obtain ⟨j, h⟩ := h
  refine ⟨j, ?_⟩
  have v := v j
  exact jcX12_move_75 (k99 := wX12_move_99 k19 Q) (k99' := vX12_move_99 k19' Q') (k99'' := wX12_move_99 k19'' Q'') (fun _ _ _ h v => jcX12_move_99 hk19 hQ _ _ _ h v) hQ _ _ _ _ _ _ h v
set_option maxRecDepth 100000 in
set_option maxHeartbeats 4000000 in
theorem jaX12_move_72 {k19 k19' : Int32 → Int32 → km_S → Prop} (hk19 : ∀ y0 y1 y2, k19 y0 y1 y2 → k19' y0 y1 y2) {Q Q' : km_S → Prop} (hQ : ∀ y0, Q y0 → Q' y0) : ∀ (l1 : Int32) (l2 : Int32) (l4 : Int32) (μ : km_S), wX12_move_72 k19 Q l1 l2 l4 μ → vX12_move_72 k19' Q' l1 l2 l4 μ := by
  intro l1 l2 l4 μ h
  unfold wX12_move_72 at h
  unfold vX12_move_72
  obtain ⟨j, h⟩ := h
  intro j9
  exact jaX12_move_75 (k99 := wX12_move_99 k19 Q) (k99' := vX12_move_99 k19' Q') (fun _ _ _ h => jaX12_move_99 hk19 hQ _ _ _ h) hQ _ j9 _ _ _ _ _ h
set_option maxRecDepth 100000 in
set_option maxHeartbeats 4000000 in
theorem jfX12_move_72 {I : km_S → Prop} (W : gw_ I [29, 30, 31, 32, 38, 39, 40, 57, 68, 1000]) {k19 : Int32 → Int32 → km_S → Prop} (hk19 : ∀ y0 y1 y2, I y2 → k19 y0 y1 y2) {Q : km_S → Prop} (hQ : ∀ y0, I y0 → Q y0) : ∀ (l1 : Int32) (l2 : Int32) (l4 : Int32) (μ : km_S), I μ → vX12_move_72 k19 Q l1 l2 l4 μ := by
  intro l1 l2 l4 μ i
  unfold vX12_move_72
  intro j
  exact jfX12_move_75 (I := I) (gw_sub W (by decide)) (k99 := vX12_move_99 k19 Q) (fun _ _ _ i => jfX12_move_99 (I := I) (gw_sub W (by decide)) hk19 hQ _ _ _ i) hQ _ _ _ _ _ _ i
def vX12_move_40 (k72 : Int32 → Int32 → Int32 → km_S → Prop) (Q : km_S → Prop) : Nat → Int32 → Int32 → Int32 → Int32 → Int32 → km_S → Prop
  | 0, _, _, _, _, _, _ => True
  | n + 1, l1, l2, l3, l4, l5, μ => ((l4 ≤ l5 → k72 l1 l2 l4 μ) ∧ (¬ (l4 ≤ l5) → vp_in ((20 * l3) + l5) 2400 → vp_in l5 20 → ∀ μ11, μ11 = km_sa μ 69 l5.toNatClampNeg (km_a μ 32 ((20 * l3) + l5).toNatClampNeg) → ∀ v12 : Int32, v12 = l5 + 1 → vX12_move_40 k72 Q n l1 l2 l3 l4 v12 μ11))
set_option maxRecDepth 100000 in
set_option maxHeartbeats 4000000 in
theorem jcX12_move_40 {k72 k72' k72'' : Int32 → Int32 → Int32 → km_S → Prop} (hk72 : ∀ y0 y1 y2 y3, k72 y0 y1 y2 y3 → k72' y0 y1 y2 y3 → k72'' y0 y1 y2 y3) {Q Q' Q'' : km_S → Prop} (hQ : ∀ y0, Q y0 → Q' y0 → Q'' y0) : ∀ (n : Nat) (l1 : Int32) (l2 : Int32) (l3 : Int32) (l4 : Int32) (l5 : Int32) (μ : km_S), wX12_move_40 k72 Q n l1 l2 l3 l4 l5 μ → vX12_move_40 k72' Q' n l1 l2 l3 l4 l5 μ → wX12_move_40 k72'' Q'' n l1 l2 l3 l4 l5 μ := by
  intro n
  induction n with
  | zero => intro l1 l2 l3 l4 l5 μ h; exact h.elim
  | succ n ih =>
    intro l1 l2 l3 l4 l5 μ h v
    unfold wX12_move_40 at h
    unfold vX12_move_40 at v
    unfold wX12_move_40
    refine ⟨?_, ?_⟩
    · have h := h.1
      have v := v.1
      intro e1
      have h := h e1
      have v := v e1
      exact hk72 _ _ _ _ h v
    · have h := h.2
      have v := v.2
      intro e2
      have h := h e2
      have v := v e2
      refine ⟨h.1, ?_⟩
      have v := v h.1
      have h := h.2
      refine ⟨h.1, ?_⟩
      have v := v h.1
      have h := h.2
      intro μ11 e5
      have h := h μ11 e5
      have v := v μ11 e5
      intro v12 e6
      have h := h v12 e6
      have v := v v12 e6
      exact ih _ _ _ _ _ _ h v
set_option maxRecDepth 100000 in
set_option maxHeartbeats 4000000 in
theorem jaX12_move_40 {k72 k72' : Int32 → Int32 → Int32 → km_S → Prop} (hk72 : ∀ y0 y1 y2 y3, k72 y0 y1 y2 y3 → k72' y0 y1 y2 y3) {Q Q' : km_S → Prop} (hQ : ∀ y0, Q y0 → Q' y0) : ∀ (n m : Nat) (l1 : Int32) (l2 : Int32) (l3 : Int32) (l4 : Int32) (l5 : Int32) (μ : km_S), wX12_move_40 k72 Q n l1 l2 l3 l4 l5 μ → vX12_move_40 k72' Q' m l1 l2 l3 l4 l5 μ := by
  intro n
  induction n with
  | zero => intro m l1 l2 l3 l4 l5 μ h; exact h.elim
  | succ n ih =>
    intro m l1 l2 l3 l4 l5 μ h
    cases m with
    | zero => exact trivial
    | succ m =>
      unfold wX12_move_40 at h
      unfold vX12_move_40
      refine ⟨?_, ?_⟩
      · have h := h.1
        intro e1
        have h := h e1
        exact hk72 _ _ _ _ h
      · have h := h.2
        intro e2
        have h := h e2
        intro e3
        have h := h.2
        intro e4
        have h := h.2
        intro μ11 e5
        have h := h μ11 e5
        intro v12 e6
        have h := h v12 e6
        exact ih m _ _ _ _ _ _ h
set_option maxRecDepth 100000 in
set_option maxHeartbeats 4000000 in
theorem jfX12_move_40 {I : km_S → Prop} (W : gw_ I [69]) {k72 : Int32 → Int32 → Int32 → km_S → Prop} (hk72 : ∀ y0 y1 y2 y3, I y3 → k72 y0 y1 y2 y3) {Q : km_S → Prop} (hQ : ∀ y0, I y0 → Q y0) : ∀ (n : Nat) (l1 : Int32) (l2 : Int32) (l3 : Int32) (l4 : Int32) (l5 : Int32) (μ : km_S), I μ → vX12_move_40 k72 Q n l1 l2 l3 l4 l5 μ := by
  intro n
  induction n with
  | zero => intro l1 l2 l3 l4 l5 μ i; exact trivial
  | succ n ih =>
    intro l1 l2 l3 l4 l5 μ i
    unfold vX12_move_40
    refine ⟨?_, ?_⟩
    · intro e1
      exact hk72 _ _ _ _ i
    · intro e2
      intro e3
      intro e4
      intro μ11 e5
      have iμ11 : I μ11 := by rw [e5]; exact ((W _ i) 69 (by decide)).2.1 _ _
      intro v12 e6
      exact ih _ _ _ _ _ _ iμ11
def vX12_move_19 (k105 : Int32 → km_S → Prop) (Q : km_S → Prop) : Nat → Int32 → Int32 → km_S → Prop
  | 0, _, _, _ => True
  | n + 1, l1, l2, μ => ((l2 < 0 → k105 l1 μ) ∧ (¬ (l2 < 0) → vX12_at0 l1 l2 μ (fun r15 μ14 => vp_in r15 120 → ∀ v17, v17 = km_a μ14 31 r15.toNatClampNeg → ∀ j, vX12_move_40 (vX12_move_72 (vX12_move_19 k105 Q n) Q) Q j l1 l2 r15 v17 0 μ14)))
set_option maxRecDepth 100000 in
set_option maxHeartbeats 4000000 in
theorem jcX12_move_19 {k105 k105' k105'' : Int32 → km_S → Prop} (hk105 : ∀ y0 y1, k105 y0 y1 → k105' y0 y1 → k105'' y0 y1) {Q Q' Q'' : km_S → Prop} (hQ : ∀ y0, Q y0 → Q' y0 → Q'' y0) : ∀ (n : Nat) (l1 : Int32) (l2 : Int32) (μ : km_S), wX12_move_19 k105 Q n l1 l2 μ → vX12_move_19 k105' Q' n l1 l2 μ → wX12_move_19 k105'' Q'' n l1 l2 μ := by
  intro n
  induction n with
  | zero => intro l1 l2 μ h; exact h.elim
  | succ n ih =>
    intro l1 l2 μ h v
    unfold wX12_move_19 at h
    unfold vX12_move_19 at v
    unfold wX12_move_19
    refine ⟨?_, ?_⟩
    · have h := h.1
      have v := v.1
      intro e1
      have h := h e1
      have v := v e1
      exact hk105 _ _ h v
    · have h := h.2
      have v := v.2
      intro e2
      have h := h e2
      have v := v e2
      refine jcX12_at0 ?_ _ _ _ h v
      intro r15 μ14 h v
      refine ⟨h.1, ?_⟩
      have v := v h.1
      have h := h.2
      intro v17 e4
      have h := h v17 e4
      have v := v v17 e4
      obtain ⟨j, h⟩ := h
      refine ⟨j, ?_⟩
      have v := v j
      exact jcX12_move_40 (k72 := wX12_move_72 (wX12_move_19 k105 Q n) Q) (k72' := vX12_move_72 (vX12_move_19 k105' Q' n) Q') (k72'' := wX12_move_72 (wX12_move_19 k105'' Q'' n) Q'') (fun _ _ _ _ h v => jcX12_move_72 (k19 := wX12_move_19 k105 Q n) (k19' := vX12_move_19 k105' Q' n) (k19'' := wX12_move_19 k105'' Q'' n) (fun _ _ _ h v => ih _ _ _ h v) hQ _ _ _ _ h v) hQ _ _ _ _ _ _ _ h v
set_option maxRecDepth 100000 in
set_option maxHeartbeats 4000000 in
theorem jaX12_move_19 {k105 k105' : Int32 → km_S → Prop} (hk105 : ∀ y0 y1, k105 y0 y1 → k105' y0 y1) {Q Q' : km_S → Prop} (hQ : ∀ y0, Q y0 → Q' y0) : ∀ (n m : Nat) (l1 : Int32) (l2 : Int32) (μ : km_S), wX12_move_19 k105 Q n l1 l2 μ → vX12_move_19 k105' Q' m l1 l2 μ := by
  intro n
  induction n with
  | zero => intro m l1 l2 μ h; exact h.elim
  | succ n ih =>
    intro m l1 l2 μ h
    cases m with
    | zero => exact trivial
    | succ m =>
      unfold wX12_move_19 at h
      unfold vX12_move_19
      refine ⟨?_, ?_⟩
      · have h := h.1
        intro e1
        have h := h e1
        exact hk105 _ _ h
      · have h := h.2
        intro e2
        have h := h e2
        refine jaX12_at0 ?_ _ _ _ h
        intro r15 μ14 h
        intro e3
        have h := h.2
        intro v17 e4
        have h := h v17 e4
        obtain ⟨j, h⟩ := h
        intro j9
        exact jaX12_move_40 (k72 := wX12_move_72 (wX12_move_19 k105 Q n) Q) (k72' := vX12_move_72 (vX12_move_19 k105' Q' m) Q') (fun _ _ _ _ h => jaX12_move_72 (k19 := wX12_move_19 k105 Q n) (k19' := vX12_move_19 k105' Q' m) (fun _ _ _ h => ih m _ _ _ h) hQ _ _ _ _ h) hQ _ j9 _ _ _ _ _ _ h
set_option maxRecDepth 100000 in
set_option maxHeartbeats 4000000 in
theorem jfX12_move_19 {I : km_S → Prop} (W : gw_ I [29, 30, 31, 32, 38, 39, 40, 57, 68, 69, 1000]) {k105 : Int32 → km_S → Prop} (hk105 : ∀ y0 y1, I y1 → k105 y0 y1) {Q : km_S → Prop} (hQ : ∀ y0, I y0 → Q y0) : ∀ (n : Nat) (l1 : Int32) (l2 : Int32) (μ : km_S), I μ → vX12_move_19 k105 Q n l1 l2 μ := by
  intro n
  induction n with
  | zero => intro l1 l2 μ i; exact trivial
  | succ n ih =>
    intro l1 l2 μ i
    unfold vX12_move_19
    refine ⟨?_, ?_⟩
    · intro e1
      exact hk105 _ _ i
    · intro e2
      refine jfX12_at0 (I := I) (gw_sub W (by decide)) ?_ _ _ _ i
      intro r15 μ14 iμ14
      intro e3
      intro v17 e4
      intro j
      exact jfX12_move_40 (I := I) (gw_sub W (by decide)) (k72 := vX12_move_72 (vX12_move_19 k105 Q n) Q) (fun _ _ _ _ i => jfX12_move_72 (I := I) (gw_sub W (by decide)) (k19 := vX12_move_19 k105 Q n) (fun _ _ _ i => ih _ _ _ i) hQ _ _ _ _ i) hQ _ _ _ _ _ _ _ iμ14
def vX12_move_2 (Q : km_S → Prop) : Nat → Int32 → km_S → Prop
  | 0, _, _ => True
  | n + 1, l1, μ => (((km_i μ 3) ≤ l1 → Q μ) ∧ (¬ ((km_i μ 3) ≤ l1) → vp_in l1 10 → ∀ v21, v21 = (km_a μ 14 l1.toNatClampNeg) - 1 → ∀ j, vX12_move_19 (vX12_move_105 (vX12_move_2 Q n) Q) Q j l1 v21 μ))
set_option maxRecDepth 100000 in
set_option maxHeartbeats 4000000 in
theorem jcX12_move_2 {Q Q' Q'' : km_S → Prop} (hQ : ∀ y0, Q y0 → Q' y0 → Q'' y0) : ∀ (n : Nat) (l1 : Int32) (μ : km_S), wX12_move_2 Q n l1 μ → vX12_move_2 Q' n l1 μ → wX12_move_2 Q'' n l1 μ := by
  intro n
  induction n with
  | zero => intro l1 μ h; exact h.elim
  | succ n ih =>
    intro l1 μ h v
    unfold wX12_move_2 at h
    unfold vX12_move_2 at v
    unfold wX12_move_2
    refine ⟨?_, ?_⟩
    · have h := h.1
      have v := v.1
      intro e1
      have h := h e1
      have v := v e1
      exact hQ _ h v
    · have h := h.2
      have v := v.2
      intro e2
      have h := h e2
      have v := v e2
      refine ⟨h.1, ?_⟩
      have v := v h.1
      have h := h.2
      intro v21 e4
      have h := h v21 e4
      have v := v v21 e4
      obtain ⟨j, h⟩ := h
      refine ⟨j, ?_⟩
      have v := v j
      exact jcX12_move_19 (k105 := wX12_move_105 (wX12_move_2 Q n) Q) (k105' := vX12_move_105 (vX12_move_2 Q' n) Q') (k105'' := wX12_move_105 (wX12_move_2 Q'' n) Q'') (fun _ _ h v => jcX12_move_105 (k2 := wX12_move_2 Q n) (k2' := vX12_move_2 Q' n) (k2'' := wX12_move_2 Q'' n) (fun _ _ h v => ih _ _ h v) hQ _ _ h v) hQ _ _ _ _ h v
set_option maxRecDepth 100000 in
set_option maxHeartbeats 4000000 in
theorem jaX12_move_2 {Q Q' : km_S → Prop} (hQ : ∀ y0, Q y0 → Q' y0) : ∀ (n m : Nat) (l1 : Int32) (μ : km_S), wX12_move_2 Q n l1 μ → vX12_move_2 Q' m l1 μ := by
  intro n
  induction n with
  | zero => intro m l1 μ h; exact h.elim
  | succ n ih =>
    intro m l1 μ h
    cases m with
    | zero => exact trivial
    | succ m =>
      unfold wX12_move_2 at h
      unfold vX12_move_2
      refine ⟨?_, ?_⟩
      · have h := h.1
        intro e1
        have h := h e1
        exact hQ _ h
      · have h := h.2
        intro e2
        have h := h e2
        intro e3
        have h := h.2
        intro v21 e4
        have h := h v21 e4
        obtain ⟨j, h⟩ := h
        intro j9
        exact jaX12_move_19 (k105 := wX12_move_105 (wX12_move_2 Q n) Q) (k105' := vX12_move_105 (vX12_move_2 Q' m) Q') (fun _ _ h => jaX12_move_105 (k2 := wX12_move_2 Q n) (k2' := vX12_move_2 Q' m) (fun _ _ h => ih m _ _ h) hQ _ _ h) hQ _ j9 _ _ _ h
set_option maxRecDepth 100000 in
set_option maxHeartbeats 4000000 in
theorem jfX12_move_2 {I : km_S → Prop} (W : gw_ I [29, 30, 31, 32, 38, 39, 40, 57, 68, 69, 1000]) {Q : km_S → Prop} (hQ : ∀ y0, I y0 → Q y0) : ∀ (n : Nat) (l1 : Int32) (μ : km_S), I μ → vX12_move_2 Q n l1 μ := by
  intro n
  induction n with
  | zero => intro l1 μ i; exact trivial
  | succ n ih =>
    intro l1 μ i
    unfold vX12_move_2
    refine ⟨?_, ?_⟩
    · intro e1
      exact hQ _ i
    · intro e2
      intro e3
      intro v21 e4
      intro j
      exact jfX12_move_19 (I := I) (gw_sub W (by decide)) (k105 := vX12_move_105 (vX12_move_2 Q n) Q) (fun _ _ i => jfX12_move_105 (I := I) (gw_sub W (by decide)) (k2 := vX12_move_2 Q n) (fun _ _ i => ih _ _ i) hQ _ _ i) hQ _ _ _ _ i
def vX12_move (μ : km_S) (Q : km_S → Prop) : Prop := ∀ j, vX12_move_2 Q j 0 μ
set_option maxRecDepth 100000 in
set_option maxHeartbeats 4000000 in
theorem jcX12_move {Q Q' Q'' : km_S → Prop} (hQ : ∀ y0, Q y0 → Q' y0 → Q'' y0) : ∀ (μ : km_S), wX12_move μ Q → vX12_move μ Q' → wX12_move μ Q'' := by
  intro μ h v
  unfold wX12_move at h
  unfold vX12_move at v
  unfold wX12_move
  obtain ⟨j, h⟩ := h
  refine ⟨j, ?_⟩
  have v := v j
  exact jcX12_move_2 hQ _ _ _ h v
set_option maxRecDepth 100000 in
set_option maxHeartbeats 4000000 in
theorem jaX12_move {Q Q' : km_S → Prop} (hQ : ∀ y0, Q y0 → Q' y0) : ∀ (μ : km_S), wX12_move μ Q → vX12_move μ Q' := by
  intro μ h
  unfold wX12_move at h
  unfold vX12_move
  obtain ⟨j, h⟩ := h
  intro j9
  exact jaX12_move_2 hQ _ j9 _ _ h
set_option maxRecDepth 100000 in
set_option maxHeartbeats 4000000 in
theorem jfX12_move {I : km_S → Prop} (W : gw_ I [29, 30, 31, 32, 38, 39, 40, 57, 68, 69, 1000]) {Q : km_S → Prop} (hQ : ∀ y0, I y0 → Q y0) : ∀ (μ : km_S), I μ → vX12_move μ Q := by
  intro μ i
  unfold vX12_move
  intro j
  exact jfX12_move_2 (I := I) (gw_sub W (by decide)) hQ _ _ _ i
def vX12_jams_302 (k213 : Int32 → km_S → Prop) (Q : km_S → Prop) (l1 : Int32) (μ : km_S) : Prop := ∀ v1 : Int32, v1 = l1 + 1 → k213 v1 μ
set_option maxRecDepth 100000 in
set_option maxHeartbeats 4000000 in
theorem jcX12_jams_302 {k213 k213' k213'' : Int32 → km_S → Prop} (hk213 : ∀ y0 y1, k213 y0 y1 → k213' y0 y1 → k213'' y0 y1) {Q Q' Q'' : km_S → Prop} (hQ : ∀ y0, Q y0 → Q' y0 → Q'' y0) : ∀ (l1 : Int32) (μ : km_S), wX12_jams_302 k213 Q l1 μ → vX12_jams_302 k213' Q' l1 μ → wX12_jams_302 k213'' Q'' l1 μ := by
  intro l1 μ h v
  unfold wX12_jams_302 at h
  unfold vX12_jams_302 at v
  unfold wX12_jams_302
  intro v1 e1
  have h := h v1 e1
  have v := v v1 e1
  exact hk213 _ _ h v
set_option maxRecDepth 100000 in
set_option maxHeartbeats 4000000 in
theorem jaX12_jams_302 {k213 k213' : Int32 → km_S → Prop} (hk213 : ∀ y0 y1, k213 y0 y1 → k213' y0 y1) {Q Q' : km_S → Prop} (hQ : ∀ y0, Q y0 → Q' y0) : ∀ (l1 : Int32) (μ : km_S), wX12_jams_302 k213 Q l1 μ → vX12_jams_302 k213' Q' l1 μ := by
  intro l1 μ h
  unfold wX12_jams_302 at h
  unfold vX12_jams_302
  intro v1 e1
  have h := h v1 e1
  exact hk213 _ _ h
set_option maxRecDepth 100000 in
set_option maxHeartbeats 4000000 in
theorem jfX12_jams_302 {I : km_S → Prop} (W : gw_ I []) {k213 : Int32 → km_S → Prop} (hk213 : ∀ y0 y1, I y1 → k213 y0 y1) {Q : km_S → Prop} (hQ : ∀ y0, I y0 → Q y0) : ∀ (l1 : Int32) (μ : km_S), I μ → vX12_jams_302 k213 Q l1 μ := by
  intro l1 μ i
  unfold vX12_jams_302
  intro v1 e1
  exact hk213 _ _ i
def vX12_jams_296 (k258 : Int32 → Int32 → Int32 → km_S → Prop) (Q : km_S → Prop) (l1 : Int32) (l2 : Int32) (l3 : Int32) (μ : km_S) : Prop := ∀ v2 : Int32, v2 = l3 + 1 → k258 l1 l2 v2 μ
set_option maxRecDepth 100000 in
set_option maxHeartbeats 4000000 in
theorem jcX12_jams_296 {k258 k258' k258'' : Int32 → Int32 → Int32 → km_S → Prop} (hk258 : ∀ y0 y1 y2 y3, k258 y0 y1 y2 y3 → k258' y0 y1 y2 y3 → k258'' y0 y1 y2 y3) {Q Q' Q'' : km_S → Prop} (hQ : ∀ y0, Q y0 → Q' y0 → Q'' y0) : ∀ (l1 : Int32) (l2 : Int32) (l3 : Int32) (μ : km_S), wX12_jams_296 k258 Q l1 l2 l3 μ → vX12_jams_296 k258' Q' l1 l2 l3 μ → wX12_jams_296 k258'' Q'' l1 l2 l3 μ := by
  intro l1 l2 l3 μ h v
  unfold wX12_jams_296 at h
  unfold vX12_jams_296 at v
  unfold wX12_jams_296
  intro v2 e1
  have h := h v2 e1
  have v := v v2 e1
  exact hk258 _ _ _ _ h v
set_option maxRecDepth 100000 in
set_option maxHeartbeats 4000000 in
theorem jaX12_jams_296 {k258 k258' : Int32 → Int32 → Int32 → km_S → Prop} (hk258 : ∀ y0 y1 y2 y3, k258 y0 y1 y2 y3 → k258' y0 y1 y2 y3) {Q Q' : km_S → Prop} (hQ : ∀ y0, Q y0 → Q' y0) : ∀ (l1 : Int32) (l2 : Int32) (l3 : Int32) (μ : km_S), wX12_jams_296 k258 Q l1 l2 l3 μ → vX12_jams_296 k258' Q' l1 l2 l3 μ := by
  intro l1 l2 l3 μ h
  unfold wX12_jams_296 at h
  unfold vX12_jams_296
  intro v2 e1
  have h := h v2 e1
  exact hk258 _ _ _ _ h
set_option maxRecDepth 100000 in
set_option maxHeartbeats 4000000 in
theorem jfX12_jams_296 {I : km_S → Prop} (W : gw_ I []) {k258 : Int32 → Int32 → Int32 → km_S → Prop} (hk258 : ∀ y0 y1 y2 y3, I y3 → k258 y0 y1 y2 y3) {Q : km_S → Prop} (hQ : ∀ y0, I y0 → Q y0) : ∀ (l1 : Int32) (l2 : Int32) (l3 : Int32) (μ : km_S), I μ → vX12_jams_296 k258 Q l1 l2 l3 μ := by
  intro l1 l2 l3 μ i
  unfold vX12_jams_296
  intro v2 e1
  exact hk258 _ _ _ _ i
def vX12_jams_250 (k230 : Int32 → Int32 → Int32 → km_S → Prop) (Q : km_S → Prop) (l1 : Int32) (l2 : Int32) (l3 : Int32) (μ : km_S) : Prop := ∀ v3 : Int32, v3 = l3 + 1 → k230 l1 l2 v3 μ
set_option maxRecDepth 100000 in
set_option maxHeartbeats 4000000 in
theorem jcX12_jams_250 {k230 k230' k230'' : Int32 → Int32 → Int32 → km_S → Prop} (hk230 : ∀ y0 y1 y2 y3, k230 y0 y1 y2 y3 → k230' y0 y1 y2 y3 → k230'' y0 y1 y2 y3) {Q Q' Q'' : km_S → Prop} (hQ : ∀ y0, Q y0 → Q' y0 → Q'' y0) : ∀ (l1 : Int32) (l2 : Int32) (l3 : Int32) (μ : km_S), wX12_jams_250 k230 Q l1 l2 l3 μ → vX12_jams_250 k230' Q' l1 l2 l3 μ → wX12_jams_250 k230'' Q'' l1 l2 l3 μ := by
  intro l1 l2 l3 μ h v
  unfold wX12_jams_250 at h
  unfold vX12_jams_250 at v
  unfold wX12_jams_250
  intro v3 e1
  have h := h v3 e1
  have v := v v3 e1
  exact hk230 _ _ _ _ h v
set_option maxRecDepth 100000 in
set_option maxHeartbeats 4000000 in
theorem jaX12_jams_250 {k230 k230' : Int32 → Int32 → Int32 → km_S → Prop} (hk230 : ∀ y0 y1 y2 y3, k230 y0 y1 y2 y3 → k230' y0 y1 y2 y3) {Q Q' : km_S → Prop} (hQ : ∀ y0, Q y0 → Q' y0) : ∀ (l1 : Int32) (l2 : Int32) (l3 : Int32) (μ : km_S), wX12_jams_250 k230 Q l1 l2 l3 μ → vX12_jams_250 k230' Q' l1 l2 l3 μ := by
  intro l1 l2 l3 μ h
  unfold wX12_jams_250 at h
  unfold vX12_jams_250
  intro v3 e1
  have h := h v3 e1
  exact hk230 _ _ _ _ h
set_option maxRecDepth 100000 in
set_option maxHeartbeats 4000000 in
theorem jfX12_jams_250 {I : km_S → Prop} (W : gw_ I []) {k230 : Int32 → Int32 → Int32 → km_S → Prop} (hk230 : ∀ y0 y1 y2 y3, I y3 → k230 y0 y1 y2 y3) {Q : km_S → Prop} (hQ : ∀ y0, I y0 → Q y0) : ∀ (l1 : Int32) (l2 : Int32) (l3 : Int32) (μ : km_S), I μ → vX12_jams_250 k230 Q l1 l2 l3 μ := by
  intro l1 l2 l3 μ i
  unfold vX12_jams_250
  intro v3 e1
  exact hk230 _ _ _ _ i
def vX12_jams_205 (k81 : Int32 → km_S → Prop) (Q : km_S → Prop) (l1 : Int32) (μ : km_S) : Prop := ∀ v4 : Int32, v4 = l1 + 1 → k81 v4 μ
set_option maxRecDepth 100000 in
set_option maxHeartbeats 4000000 in
theorem jcX12_jams_205 {k81 k81' k81'' : Int32 → km_S → Prop} (hk81 : ∀ y0 y1, k81 y0 y1 → k81' y0 y1 → k81'' y0 y1) {Q Q' Q'' : km_S → Prop} (hQ : ∀ y0, Q y0 → Q' y0 → Q'' y0) : ∀ (l1 : Int32) (μ : km_S), wX12_jams_205 k81 Q l1 μ → vX12_jams_205 k81' Q' l1 μ → wX12_jams_205 k81'' Q'' l1 μ := by
  intro l1 μ h v
  unfold wX12_jams_205 at h
  unfold vX12_jams_205 at v
  unfold wX12_jams_205
  intro v4 e1
  have h := h v4 e1
  have v := v v4 e1
  exact hk81 _ _ h v
set_option maxRecDepth 100000 in
set_option maxHeartbeats 4000000 in
theorem jaX12_jams_205 {k81 k81' : Int32 → km_S → Prop} (hk81 : ∀ y0 y1, k81 y0 y1 → k81' y0 y1) {Q Q' : km_S → Prop} (hQ : ∀ y0, Q y0 → Q' y0) : ∀ (l1 : Int32) (μ : km_S), wX12_jams_205 k81 Q l1 μ → vX12_jams_205 k81' Q' l1 μ := by
  intro l1 μ h
  unfold wX12_jams_205 at h
  unfold vX12_jams_205
  intro v4 e1
  have h := h v4 e1
  exact hk81 _ _ h
set_option maxRecDepth 100000 in
set_option maxHeartbeats 4000000 in
theorem jfX12_jams_205 {I : km_S → Prop} (W : gw_ I []) {k81 : Int32 → km_S → Prop} (hk81 : ∀ y0 y1, I y1 → k81 y0 y1) {Q : km_S → Prop} (hQ : ∀ y0, I y0 → Q y0) : ∀ (l1 : Int32) (μ : km_S), I μ → vX12_jams_205 k81 Q l1 μ := by
  intro l1 μ i
  unfold vX12_jams_205
  intro v4 e1
  exact hk81 _ _ i
end
section
def vX12_jams_129 (k101 : Int32 → Int32 → Int32 → Int32 → km_S → Prop) (Q : km_S → Prop) (l1 : Int32) (l2 : Int32) (l3 : Int32) (l4 : Int32) (μ : km_S) : Prop := ∀ v5 : Int32, v5 = l4 + 1 → k101 l1 l2 l3 v5 μ
set_option maxRecDepth 100000 in
set_option maxHeartbeats 4000000 in
theorem jcX12_jams_129 {k101 k101' k101'' : Int32 → Int32 → Int32 → Int32 → km_S → Prop} (hk101 : ∀ y0 y1 y2 y3 y4, k101 y0 y1 y2 y3 y4 → k101' y0 y1 y2 y3 y4 → k101'' y0 y1 y2 y3 y4) {Q Q' Q'' : km_S → Prop} (hQ : ∀ y0, Q y0 → Q' y0 → Q'' y0) : ∀ (l1 : Int32) (l2 : Int32) (l3 : Int32) (l4 : Int32) (μ : km_S), wX12_jams_129 k101 Q l1 l2 l3 l4 μ → vX12_jams_129 k101' Q' l1 l2 l3 l4 μ → wX12_jams_129 k101'' Q'' l1 l2 l3 l4 μ := by
  intro l1 l2 l3 l4 μ h v
  unfold wX12_jams_129 at h
  unfold vX12_jams_129 at v
  unfold wX12_jams_129
  intro v5 e1
  have h := h v5 e1
  have v := v v5 e1
  exact hk101 _ _ _ _ _ h v
set_option maxRecDepth 100000 in
set_option maxHeartbeats 4000000 in
theorem jaX12_jams_129 {k101 k101' : Int32 → Int32 → Int32 → Int32 → km_S → Prop} (hk101 : ∀ y0 y1 y2 y3 y4, k101 y0 y1 y2 y3 y4 → k101' y0 y1 y2 y3 y4) {Q Q' : km_S → Prop} (hQ : ∀ y0, Q y0 → Q' y0) : ∀ (l1 : Int32) (l2 : Int32) (l3 : Int32) (l4 : Int32) (μ : km_S), wX12_jams_129 k101 Q l1 l2 l3 l4 μ → vX12_jams_129 k101' Q' l1 l2 l3 l4 μ := by
  intro l1 l2 l3 l4 μ h
  unfold wX12_jams_129 at h
  unfold vX12_jams_129
  intro v5 e1
  have h := h v5 e1
  exact hk101 _ _ _ _ _ h
set_option maxRecDepth 100000 in
set_option maxHeartbeats 4000000 in
theorem jfX12_jams_129 {I : km_S → Prop} (W : gw_ I []) {k101 : Int32 → Int32 → Int32 → Int32 → km_S → Prop} (hk101 : ∀ y0 y1 y2 y3 y4, I y4 → k101 y0 y1 y2 y3 y4) {Q : km_S → Prop} (hQ : ∀ y0, I y0 → Q y0) : ∀ (l1 : Int32) (l2 : Int32) (l3 : Int32) (l4 : Int32) (μ : km_S), I μ → vX12_jams_129 k101 Q l1 l2 l3 l4 μ := by
  intro l1 l2 l3 l4 μ i
  unfold vX12_jams_129
  intro v5 e1
  exact hk101 _ _ _ _ _ i
def vX12_jams_73 (k2 : Int32 → km_S → Prop) (Q : km_S → Prop) (l1 : Int32) (μ : km_S) : Prop := ∀ v6 : Int32, v6 = l1 + 1 → k2 v6 μ
set_option maxRecDepth 100000 in
set_option maxHeartbeats 4000000 in
theorem jcX12_jams_73 {k2 k2' k2'' : Int32 → km_S → Prop} (hk2 : ∀ y0 y1, k2 y0 y1 → k2' y0 y1 → k2'' y0 y1) {Q Q' Q'' : km_S → Prop} (hQ : ∀ y0, Q y0 → Q' y0 → Q'' y0) : ∀ (l1 : Int32) (μ : km_S), wX12_jams_73 k2 Q l1 μ → vX12_jams_73 k2' Q' l1 μ → wX12_jams_73 k2'' Q'' l1 μ := by
  intro l1 μ h v
  unfold wX12_jams_73 at h
  unfold vX12_jams_73 at v
  unfold wX12_jams_73
  intro v6 e1
  have h := h v6 e1
  have v := v v6 e1
  exact hk2 _ _ h v
set_option maxRecDepth 100000 in
set_option maxHeartbeats 4000000 in
theorem jaX12_jams_73 {k2 k2' : Int32 → km_S → Prop} (hk2 : ∀ y0 y1, k2 y0 y1 → k2' y0 y1) {Q Q' : km_S → Prop} (hQ : ∀ y0, Q y0 → Q' y0) : ∀ (l1 : Int32) (μ : km_S), wX12_jams_73 k2 Q l1 μ → vX12_jams_73 k2' Q' l1 μ := by
  intro l1 μ h
  unfold wX12_jams_73 at h
  unfold vX12_jams_73
  intro v6 e1
  have h := h v6 e1
  exact hk2 _ _ h
set_option maxRecDepth 100000 in
set_option maxHeartbeats 4000000 in
theorem jfX12_jams_73 {I : km_S → Prop} (W : gw_ I []) {k2 : Int32 → km_S → Prop} (hk2 : ∀ y0 y1, I y1 → k2 y0 y1) {Q : km_S → Prop} (hQ : ∀ y0, I y0 → Q y0) : ∀ (l1 : Int32) (μ : km_S), I μ → vX12_jams_73 k2 Q l1 μ := by
  intro l1 μ i
  unfold vX12_jams_73
  intro v6 e1
  exact hk2 _ _ i
def vX12_jams_67 (k12 : Int32 → Int32 → km_S → Prop) (Q : km_S → Prop) (l1 : Int32) (l2 : Int32) (μ : km_S) : Prop := ∀ v7 : Int32, v7 = l2 + 1 → k12 l1 v7 μ
set_option maxRecDepth 100000 in
set_option maxHeartbeats 4000000 in
theorem jcX12_jams_67 {k12 k12' k12'' : Int32 → Int32 → km_S → Prop} (hk12 : ∀ y0 y1 y2, k12 y0 y1 y2 → k12' y0 y1 y2 → k12'' y0 y1 y2) {Q Q' Q'' : km_S → Prop} (hQ : ∀ y0, Q y0 → Q' y0 → Q'' y0) : ∀ (l1 : Int32) (l2 : Int32) (μ : km_S), wX12_jams_67 k12 Q l1 l2 μ → vX12_jams_67 k12' Q' l1 l2 μ → wX12_jams_67 k12'' Q'' l1 l2 μ := by
  intro l1 l2 μ h v
  unfold wX12_jams_67 at h
  unfold vX12_jams_67 at v
  unfold wX12_jams_67
  intro v7 e1
  have h := h v7 e1
  have v := v v7 e1
  exact hk12 _ _ _ h v
set_option maxRecDepth 100000 in
set_option maxHeartbeats 4000000 in
theorem jaX12_jams_67 {k12 k12' : Int32 → Int32 → km_S → Prop} (hk12 : ∀ y0 y1 y2, k12 y0 y1 y2 → k12' y0 y1 y2) {Q Q' : km_S → Prop} (hQ : ∀ y0, Q y0 → Q' y0) : ∀ (l1 : Int32) (l2 : Int32) (μ : km_S), wX12_jams_67 k12 Q l1 l2 μ → vX12_jams_67 k12' Q' l1 l2 μ := by
  intro l1 l2 μ h
  unfold wX12_jams_67 at h
  unfold vX12_jams_67
  intro v7 e1
  have h := h v7 e1
  exact hk12 _ _ _ h
set_option maxRecDepth 100000 in
set_option maxHeartbeats 4000000 in
theorem jfX12_jams_67 {I : km_S → Prop} (W : gw_ I []) {k12 : Int32 → Int32 → km_S → Prop} (hk12 : ∀ y0 y1 y2, I y2 → k12 y0 y1 y2) {Q : km_S → Prop} (hQ : ∀ y0, I y0 → Q y0) : ∀ (l1 : Int32) (l2 : Int32) (μ : km_S), I μ → vX12_jams_67 k12 Q l1 l2 μ := by
  intro l1 l2 μ i
  unfold vX12_jams_67
  intro v7 e1
  exact hk12 _ _ _ i
def vX12_jams_230 (k256 : Int32 → Int32 → km_S → Prop) (Q : km_S → Prop) : Nat → Int32 → Int32 → Int32 → km_S → Prop
  | 0, _, _, _, _ => True
  | n + 1, l1, l2, l3, μ => (((km_i μ 7) ≤ l3 → k256 l1 l2 μ) ∧ (¬ ((km_i μ 7) ≤ l3) → vp_in l3 6 → ((¬ (km_a μ 44 l3.toNatClampNeg) = l1 → vX12_jams_250 (vX12_jams_230 k256 Q n) Q l1 l2 l3 μ) ∧ ((km_a μ 44 l3.toNatClampNeg) = l1 → vX12_jams_250 (vX12_jams_230 k256 Q n) Q l1 1 l3 μ))))
set_option maxRecDepth 100000 in
set_option maxHeartbeats 4000000 in
theorem jcX12_jams_230 {k256 k256' k256'' : Int32 → Int32 → km_S → Prop} (hk256 : ∀ y0 y1 y2, k256 y0 y1 y2 → k256' y0 y1 y2 → k256'' y0 y1 y2) {Q Q' Q'' : km_S → Prop} (hQ : ∀ y0, Q y0 → Q' y0 → Q'' y0) : ∀ (n : Nat) (l1 : Int32) (l2 : Int32) (l3 : Int32) (μ : km_S), wX12_jams_230 k256 Q n l1 l2 l3 μ → vX12_jams_230 k256' Q' n l1 l2 l3 μ → wX12_jams_230 k256'' Q'' n l1 l2 l3 μ := by
  intro n
  induction n with
  | zero => intro l1 l2 l3 μ h; exact h.elim
  | succ n ih =>
    intro l1 l2 l3 μ h v
    unfold wX12_jams_230 at h
    unfold vX12_jams_230 at v
    unfold wX12_jams_230
    refine ⟨?_, ?_⟩
    · have h := h.1
      have v := v.1
      intro e1
      have h := h e1
      have v := v e1
      exact hk256 _ _ _ h v
    · have h := h.2
      have v := v.2
      intro e2
      have h := h e2
      have v := v e2
      refine ⟨h.1, ?_⟩
      have v := v h.1
      have h := h.2
      refine ⟨?_, ?_⟩
      · have h := h.1
        have v := v.1
        intro e4
        have h := h e4
        have v := v e4
        exact jcX12_jams_250 (k230 := wX12_jams_230 k256 Q n) (k230' := vX12_jams_230 k256' Q' n) (k230'' := wX12_jams_230 k256'' Q'' n) (fun _ _ _ _ h v => ih _ _ _ _ h v) hQ _ _ _ _ h v
      · have h := h.2
        have v := v.2
        intro e5
        have h := h e5
        have v := v e5
        exact jcX12_jams_250 (k230 := wX12_jams_230 k256 Q n) (k230' := vX12_jams_230 k256' Q' n) (k230'' := wX12_jams_230 k256'' Q'' n) (fun _ _ _ _ h v => ih _ _ _ _ h v) hQ _ _ _ _ h v
set_option maxRecDepth 100000 in
set_option maxHeartbeats 4000000 in
theorem jaX12_jams_230 {k256 k256' : Int32 → Int32 → km_S → Prop} (hk256 : ∀ y0 y1 y2, k256 y0 y1 y2 → k256' y0 y1 y2) {Q Q' : km_S → Prop} (hQ : ∀ y0, Q y0 → Q' y0) : ∀ (n m : Nat) (l1 : Int32) (l2 : Int32) (l3 : Int32) (μ : km_S), wX12_jams_230 k256 Q n l1 l2 l3 μ → vX12_jams_230 k256' Q' m l1 l2 l3 μ := by
  intro n
  induction n with
  | zero => intro m l1 l2 l3 μ h; exact h.elim
  | succ n ih =>
    intro m l1 l2 l3 μ h
    cases m with
    | zero => exact trivial
    | succ m =>
      unfold wX12_jams_230 at h
      unfold vX12_jams_230
      refine ⟨?_, ?_⟩
      · have h := h.1
        intro e1
        have h := h e1
        exact hk256 _ _ _ h
      · have h := h.2
        intro e2
        have h := h e2
        intro e3
        have h := h.2
        refine ⟨?_, ?_⟩
        · have h := h.1
          intro e4
          have h := h e4
          exact jaX12_jams_250 (k230 := wX12_jams_230 k256 Q n) (k230' := vX12_jams_230 k256' Q' m) (fun _ _ _ _ h => ih m _ _ _ _ h) hQ _ _ _ _ h
        · have h := h.2
          intro e5
          have h := h e5
          exact jaX12_jams_250 (k230 := wX12_jams_230 k256 Q n) (k230' := vX12_jams_230 k256' Q' m) (fun _ _ _ _ h => ih m _ _ _ _ h) hQ _ _ _ _ h
set_option maxRecDepth 100000 in
set_option maxHeartbeats 4000000 in
theorem jfX12_jams_230 {I : km_S → Prop} (W : gw_ I []) {k256 : Int32 → Int32 → km_S → Prop} (hk256 : ∀ y0 y1 y2, I y2 → k256 y0 y1 y2) {Q : km_S → Prop} (hQ : ∀ y0, I y0 → Q y0) : ∀ (n : Nat) (l1 : Int32) (l2 : Int32) (l3 : Int32) (μ : km_S), I μ → vX12_jams_230 k256 Q n l1 l2 l3 μ := by
  intro n
  induction n with
  | zero => intro l1 l2 l3 μ i; exact trivial
  | succ n ih =>
    intro l1 l2 l3 μ i
    unfold vX12_jams_230
    refine ⟨?_, ?_⟩
    · intro e1
      exact hk256 _ _ _ i
    · intro e2
      intro e3
      refine ⟨?_, ?_⟩
      · intro e4
        exact jfX12_jams_250 (I := I) (gw_sub W (by decide)) (k230 := vX12_jams_230 k256 Q n) (fun _ _ _ _ i => ih _ _ _ _ i) hQ _ _ _ _ i
      · intro e5
        exact jfX12_jams_250 (I := I) (gw_sub W (by decide)) (k230 := vX12_jams_230 k256 Q n) (fun _ _ _ _ i => ih _ _ _ _ i) hQ _ _ _ _ i
def vX12_jams_101 (k135 : Int32 → Int32 → Int32 → km_S → Prop) (Q : km_S → Prop) : Nat → Int32 → Int32 → Int32 → Int32 → km_S → Prop
  | 0, _, _, _, _, _ => True
  | n + 1, l1, l2, l3, l4, μ => vp_in l2 10 → (((km_a μ 14 l2.toNatClampNeg) ≤ l4 → k135 l1 l2 l3 μ) ∧ (¬ ((km_a μ 14 l2.toNatClampNeg) ≤ l4) → vX12_at0 l2 l4 μ (fun r14 μ13 => vp_in r14 120 → (((km_a μ13 33 r14.toNatClampNeg) = 0 → vX12_jams_129 (vX12_jams_101 k135 Q n) Q l1 l2 l3 l4 μ13) ∧ (¬ ((km_a μ13 33 r14.toNatClampNeg) = 0) → vX12_jams_129 (vX12_jams_101 k135 Q n) Q l1 l2 l4 l4 μ13)))))
set_option maxRecDepth 100000 in
set_option maxHeartbeats 4000000 in
theorem jcX12_jams_101 {k135 k135' k135'' : Int32 → Int32 → Int32 → km_S → Prop} (hk135 : ∀ y0 y1 y2 y3, k135 y0 y1 y2 y3 → k135' y0 y1 y2 y3 → k135'' y0 y1 y2 y3) {Q Q' Q'' : km_S → Prop} (hQ : ∀ y0, Q y0 → Q' y0 → Q'' y0) : ∀ (n : Nat) (l1 : Int32) (l2 : Int32) (l3 : Int32) (l4 : Int32) (μ : km_S), wX12_jams_101 k135 Q n l1 l2 l3 l4 μ → vX12_jams_101 k135' Q' n l1 l2 l3 l4 μ → wX12_jams_101 k135'' Q'' n l1 l2 l3 l4 μ := by
  intro n
  induction n with
  | zero => intro l1 l2 l3 l4 μ h; exact h.elim
  | succ n ih =>
    intro l1 l2 l3 l4 μ h v
    unfold wX12_jams_101 at h
    unfold vX12_jams_101 at v
    unfold wX12_jams_101
    refine ⟨h.1, ?_⟩
    have v := v h.1
    have h := h.2
    refine ⟨?_, ?_⟩
    · have h := h.1
      have v := v.1
      intro e2
      have h := h e2
      have v := v e2
      exact hk135 _ _ _ _ h v
    · have h := h.2
      have v := v.2
      intro e3
      have h := h e3
      have v := v e3
      refine jcX12_at0 ?_ _ _ _ h v
      intro r14 μ13 h v
      refine ⟨h.1, ?_⟩
      have v := v h.1
      have h := h.2
      refine ⟨?_, ?_⟩
      · have h := h.1
        have v := v.1
        intro e5
        have h := h e5
        have v := v e5
        exact jcX12_jams_129 (k101 := wX12_jams_101 k135 Q n) (k101' := vX12_jams_101 k135' Q' n) (k101'' := wX12_jams_101 k135'' Q'' n) (fun _ _ _ _ _ h v => ih _ _ _ _ _ h v) hQ _ _ _ _ _ h v
      · have h := h.2
        have v := v.2
        intro e6
        have h := h e6
        have v := v e6
        exact jcX12_jams_129 (k101 := wX12_jams_101 k135 Q n) (k101' := vX12_jams_101 k135' Q' n) (k101'' := wX12_jams_101 k135'' Q'' n) (fun _ _ _ _ _ h v => ih _ _ _ _ _ h v) hQ _ _ _ _ _ h v
set_option maxRecDepth 100000 in
set_option maxHeartbeats 4000000 in
theorem jaX12_jams_101 {k135 k135' : Int32 → Int32 → Int32 → km_S → Prop} (hk135 : ∀ y0 y1 y2 y3, k135 y0 y1 y2 y3 → k135' y0 y1 y2 y3) {Q Q' : km_S → Prop} (hQ : ∀ y0, Q y0 → Q' y0) : ∀ (n m : Nat) (l1 : Int32) (l2 : Int32) (l3 : Int32) (l4 : Int32) (μ : km_S), wX12_jams_101 k135 Q n l1 l2 l3 l4 μ → vX12_jams_101 k135' Q' m l1 l2 l3 l4 μ := by
  intro n
  induction n with
  | zero => intro m l1 l2 l3 l4 μ h; exact h.elim
  | succ n ih =>
    intro m l1 l2 l3 l4 μ h
    cases m with
    | zero => exact trivial
    | succ m =>
      unfold wX12_jams_101 at h
      unfold vX12_jams_101
      intro e1
      have h := h.2
      refine ⟨?_, ?_⟩
      · have h := h.1
        intro e2
        have h := h e2
        exact hk135 _ _ _ _ h
      · have h := h.2
        intro e3
        have h := h e3
        refine jaX12_at0 ?_ _ _ _ h
        intro r14 μ13 h
        intro e4
        have h := h.2
        refine ⟨?_, ?_⟩
        · have h := h.1
          intro e5
          have h := h e5
          exact jaX12_jams_129 (k101 := wX12_jams_101 k135 Q n) (k101' := vX12_jams_101 k135' Q' m) (fun _ _ _ _ _ h => ih m _ _ _ _ _ h) hQ _ _ _ _ _ h
        · have h := h.2
          intro e6
          have h := h e6
          exact jaX12_jams_129 (k101 := wX12_jams_101 k135 Q n) (k101' := vX12_jams_101 k135' Q' m) (fun _ _ _ _ _ h => ih m _ _ _ _ _ h) hQ _ _ _ _ _ h
set_option maxRecDepth 100000 in
set_option maxHeartbeats 4000000 in
theorem jfX12_jams_101 {I : km_S → Prop} (W : gw_ I []) {k135 : Int32 → Int32 → Int32 → km_S → Prop} (hk135 : ∀ y0 y1 y2 y3, I y3 → k135 y0 y1 y2 y3) {Q : km_S → Prop} (hQ : ∀ y0, I y0 → Q y0) : ∀ (n : Nat) (l1 : Int32) (l2 : Int32) (l3 : Int32) (l4 : Int32) (μ : km_S), I μ → vX12_jams_101 k135 Q n l1 l2 l3 l4 μ := by
  intro n
  induction n with
  | zero => intro l1 l2 l3 l4 μ i; exact trivial
  | succ n ih =>
    intro l1 l2 l3 l4 μ i
    unfold vX12_jams_101
    intro e1
    refine ⟨?_, ?_⟩
    · intro e2
      exact hk135 _ _ _ _ i
    · intro e3
      refine jfX12_at0 (I := I) (gw_sub W (by decide)) ?_ _ _ _ i
      intro r14 μ13 iμ13
      intro e4
      refine ⟨?_, ?_⟩
      · intro e5
        exact jfX12_jams_129 (I := I) (gw_sub W (by decide)) (k101 := vX12_jams_101 k135 Q n) (fun _ _ _ _ _ i => ih _ _ _ _ _ i) hQ _ _ _ _ _ iμ13
      · intro e6
        exact jfX12_jams_129 (I := I) (gw_sub W (by decide)) (k101 := vX12_jams_101 k135 Q n) (fun _ _ _ _ _ i => ih _ _ _ _ _ i) hQ _ _ _ _ _ iμ13
def vX12_jams_258 (k302 : Int32 → km_S → Prop) (Q : km_S → Prop) : Nat → Int32 → Int32 → Int32 → km_S → Prop
  | 0, _, _, _, _ => True
  | n + 1, l1, l2, l3, μ => vp_in l1 10 → (((km_a μ 14 l1.toNatClampNeg) ≤ l3 → k302 l1 μ) ∧ (¬ ((km_a μ 14 l1.toNatClampNeg) ≤ l3) → ((l2 = 0 → k302 l1 μ) ∧ (¬ (l2 = 0) → vX12_at0 l1 l3 μ (fun r21 μ20 => vp_in r21 120 → (((km_a μ20 33 r21.toNatClampNeg) = 0 → vX12_jams_296 (vX12_jams_258 k302 Q n) Q l1 l2 l3 μ20) ∧ (¬ ((km_a μ20 33 r21.toNatClampNeg) = 0) → vX12_at0 l1 l3 μ20 (fun r25 μ24 => vp_in r25 120 → ∀ μ27, μ27 = km_sa μ24 34 r25.toNatClampNeg (vp_nar .boolean 1) → vX12_jams_296 (vX12_jams_258 k302 Q n) Q l1 l2 l3 μ27))))))))
set_option maxRecDepth 100000 in
set_option maxHeartbeats 4000000 in
theorem jcX12_jams_258 {k302 k302' k302'' : Int32 → km_S → Prop} (hk302 : ∀ y0 y1, k302 y0 y1 → k302' y0 y1 → k302'' y0 y1) {Q Q' Q'' : km_S → Prop} (hQ : ∀ y0, Q y0 → Q' y0 → Q'' y0) : ∀ (n : Nat) (l1 : Int32) (l2 : Int32) (l3 : Int32) (μ : km_S), wX12_jams_258 k302 Q n l1 l2 l3 μ → vX12_jams_258 k302' Q' n l1 l2 l3 μ → wX12_jams_258 k302'' Q'' n l1 l2 l3 μ := by
  intro n
  induction n with
  | zero => intro l1 l2 l3 μ h; exact h.elim
  | succ n ih =>
    intro l1 l2 l3 μ h v
    unfold wX12_jams_258 at h
    unfold vX12_jams_258 at v
    unfold wX12_jams_258
    refine ⟨h.1, ?_⟩
    have v := v h.1
    have h := h.2
    refine ⟨?_, ?_⟩
    · have h := h.1
      have v := v.1
      intro e2
      have h := h e2
      have v := v e2
      exact hk302 _ _ h v
    · have h := h.2
      have v := v.2
      intro e3
      have h := h e3
      have v := v e3
      refine ⟨?_, ?_⟩
      · have h := h.1
        have v := v.1
        intro e4
        have h := h e4
        have v := v e4
        exact hk302 _ _ h v
      · have h := h.2
        have v := v.2
        intro e5
        have h := h e5
        have v := v e5
        refine jcX12_at0 ?_ _ _ _ h v
        intro r21 μ20 h v
        refine ⟨h.1, ?_⟩
        have v := v h.1
        have h := h.2
        refine ⟨?_, ?_⟩
        · have h := h.1
          have v := v.1
          intro e7
          have h := h e7
          have v := v e7
          exact jcX12_jams_296 (k258 := wX12_jams_258 k302 Q n) (k258' := vX12_jams_258 k302' Q' n) (k258'' := wX12_jams_258 k302'' Q'' n) (fun _ _ _ _ h v => ih _ _ _ _ h v) hQ _ _ _ _ h v
        · have h := h.2
          have v := v.2
          intro e8
          have h := h e8
          have v := v e8
          refine jcX12_at0 ?_ _ _ _ h v
          intro r25 μ24 h v
          refine ⟨h.1, ?_⟩
          have v := v h.1
          have h := h.2
          intro μ27 e10
          have h := h μ27 e10
          have v := v μ27 e10
          exact jcX12_jams_296 (k258 := wX12_jams_258 k302 Q n) (k258' := vX12_jams_258 k302' Q' n) (k258'' := wX12_jams_258 k302'' Q'' n) (fun _ _ _ _ h v => ih _ _ _ _ h v) hQ _ _ _ _ h v
set_option maxRecDepth 100000 in
set_option maxHeartbeats 4000000 in
theorem jaX12_jams_258 {k302 k302' : Int32 → km_S → Prop} (hk302 : ∀ y0 y1, k302 y0 y1 → k302' y0 y1) {Q Q' : km_S → Prop} (hQ : ∀ y0, Q y0 → Q' y0) : ∀ (n m : Nat) (l1 : Int32) (l2 : Int32) (l3 : Int32) (μ : km_S), wX12_jams_258 k302 Q n l1 l2 l3 μ → vX12_jams_258 k302' Q' m l1 l2 l3 μ := by
  intro n
  induction n with
  | zero => intro m l1 l2 l3 μ h; exact h.elim
  | succ n ih =>
    intro m l1 l2 l3 μ h
    cases m with
    | zero => exact trivial
    | succ m =>
      unfold wX12_jams_258 at h
      unfold vX12_jams_258
      intro e1
      have h := h.2
      refine ⟨?_, ?_⟩
      · have h := h.1
        intro e2
        have h := h e2
        exact hk302 _ _ h
      · have h := h.2
        intro e3
        have h := h e3
        refine ⟨?_, ?_⟩
        · have h := h.1
          intro e4
          have h := h e4
          exact hk302 _ _ h
        · have h := h.2
          intro e5
          have h := h e5
          refine jaX12_at0 ?_ _ _ _ h
          intro r21 μ20 h
          intro e6
          have h := h.2
          refine ⟨?_, ?_⟩
          · have h := h.1
            intro e7
            have h := h e7
            exact jaX12_jams_296 (k258 := wX12_jams_258 k302 Q n) (k258' := vX12_jams_258 k302' Q' m) (fun _ _ _ _ h => ih m _ _ _ _ h) hQ _ _ _ _ h
          · have h := h.2
            intro e8
            have h := h e8
            refine jaX12_at0 ?_ _ _ _ h
            intro r25 μ24 h
            intro e9
            have h := h.2
            intro μ27 e10
            have h := h μ27 e10
            exact jaX12_jams_296 (k258 := wX12_jams_258 k302 Q n) (k258' := vX12_jams_258 k302' Q' m) (fun _ _ _ _ h => ih m _ _ _ _ h) hQ _ _ _ _ h
set_option maxRecDepth 100000 in
set_option maxHeartbeats 4000000 in
theorem jfX12_jams_258 {I : km_S → Prop} (W : gw_ I [34]) {k302 : Int32 → km_S → Prop} (hk302 : ∀ y0 y1, I y1 → k302 y0 y1) {Q : km_S → Prop} (hQ : ∀ y0, I y0 → Q y0) : ∀ (n : Nat) (l1 : Int32) (l2 : Int32) (l3 : Int32) (μ : km_S), I μ → vX12_jams_258 k302 Q n l1 l2 l3 μ := by
  intro n
  induction n with
  | zero => intro l1 l2 l3 μ i; exact trivial
  | succ n ih =>
    intro l1 l2 l3 μ i
    unfold vX12_jams_258
    intro e1
    refine ⟨?_, ?_⟩
    · intro e2
      exact hk302 _ _ i
    · intro e3
      refine ⟨?_, ?_⟩
      · intro e4
        exact hk302 _ _ i
      · intro e5
        refine jfX12_at0 (I := I) (gw_sub W (by decide)) ?_ _ _ _ i
        intro r21 μ20 iμ20
        intro e6
        refine ⟨?_, ?_⟩
        · intro e7
          exact jfX12_jams_296 (I := I) (gw_sub W (by decide)) (k258 := vX12_jams_258 k302 Q n) (fun _ _ _ _ i => ih _ _ _ _ i) hQ _ _ _ _ iμ20
        · intro e8
          refine jfX12_at0 (I := I) (gw_sub W (by decide)) ?_ _ _ _ iμ20
          intro r25 μ24 iμ24
          intro e9
          intro μ27 e10
          have iμ27 : I μ27 := by rw [e10]; exact ((W _ iμ24) 34 (by decide)).2.1 _ _
          exact jfX12_jams_296 (I := I) (gw_sub W (by decide)) (k258 := vX12_jams_258 k302 Q n) (fun _ _ _ _ i => ih _ _ _ _ i) hQ _ _ _ _ iμ27
def vX12_jams_256 (k213 : Int32 → km_S → Prop) (Q : km_S → Prop) (l1 : Int32) (l2 : Int32) (μ : km_S) : Prop := ∀ j, vX12_jams_258 (vX12_jams_302 k213 Q) Q j l1 l2 0 μ
set_option maxRecDepth 100000 in
set_option maxHeartbeats 4000000 in
theorem jcX12_jams_256 {k213 k213' k213'' : Int32 → km_S → Prop} (hk213 : ∀ y0 y1, k213 y0 y1 → k213' y0 y1 → k213'' y0 y1) {Q Q' Q'' : km_S → Prop} (hQ : ∀ y0, Q y0 → Q' y0 → Q'' y0) : ∀ (l1 : Int32) (l2 : Int32) (μ : km_S), wX12_jams_256 k213 Q l1 l2 μ → vX12_jams_256 k213' Q' l1 l2 μ → wX12_jams_256 k213'' Q'' l1 l2 μ := by
  intro l1 l2 μ h v
  unfold wX12_jams_256 at h
  unfold vX12_jams_256 at v
  unfold wX12_jams_256
  obtain ⟨j, h⟩ := h
  refine ⟨j, ?_⟩
  have v := v j
  exact jcX12_jams_258 (k302 := wX12_jams_302 k213 Q) (k302' := vX12_jams_302 k213' Q') (k302'' := wX12_jams_302 k213'' Q'') (fun _ _ h v => jcX12_jams_302 hk213 hQ _ _ h v) hQ _ _ _ _ _ h v
set_option maxRecDepth 100000 in
set_option maxHeartbeats 4000000 in
theorem jaX12_jams_256 {k213 k213' : Int32 → km_S → Prop} (hk213 : ∀ y0 y1, k213 y0 y1 → k213' y0 y1) {Q Q' : km_S → Prop} (hQ : ∀ y0, Q y0 → Q' y0) : ∀ (l1 : Int32) (l2 : Int32) (μ : km_S), wX12_jams_256 k213 Q l1 l2 μ → vX12_jams_256 k213' Q' l1 l2 μ := by
  intro l1 l2 μ h
  unfold wX12_jams_256 at h
  unfold vX12_jams_256
  obtain ⟨j, h⟩ := h
  intro j9
  exact jaX12_jams_258 (k302 := wX12_jams_302 k213 Q) (k302' := vX12_jams_302 k213' Q') (fun _ _ h => jaX12_jams_302 hk213 hQ _ _ h) hQ _ j9 _ _ _ _ h
set_option maxRecDepth 100000 in
set_option maxHeartbeats 4000000 in
theorem jfX12_jams_256 {I : km_S → Prop} (W : gw_ I [34]) {k213 : Int32 → km_S → Prop} (hk213 : ∀ y0 y1, I y1 → k213 y0 y1) {Q : km_S → Prop} (hQ : ∀ y0, I y0 → Q y0) : ∀ (l1 : Int32) (l2 : Int32) (μ : km_S), I μ → vX12_jams_256 k213 Q l1 l2 μ := by
  intro l1 l2 μ i
  unfold vX12_jams_256
  intro j
  exact jfX12_jams_258 (I := I) (gw_sub W (by decide)) (k302 := vX12_jams_302 k213 Q) (fun _ _ i => jfX12_jams_302 (I := I) (gw_sub W (by decide)) hk213 hQ _ _ i) hQ _ _ _ _ _ i
def vX12_jams_12 (k73 : Int32 → km_S → Prop) (Q : km_S → Prop) : Nat → Int32 → Int32 → km_S → Prop
  | 0, _, _, _ => True
  | n + 1, l1, l2, μ => vp_in l1 10 → (((km_a μ 14 l1.toNatClampNeg) ≤ l2 → k73 l1 μ) ∧ (¬ ((km_a μ 14 l1.toNatClampNeg) ≤ l2) → vX12_at0 l1 l2 μ (fun r32 μ31 => vp_in r32 120 → vp_in l1 10 → ((¬ (km_a μ31 31 r32.toNatClampNeg) = (km_a μ31 15 l1.toNatClampNeg) → vX12_jams_67 (vX12_jams_12 k73 Q n) Q l1 l2 μ31) ∧ ((km_a μ31 31 r32.toNatClampNeg) = (km_a μ31 15 l1.toNatClampNeg) → vp_in l1 10 → vp_in l1 10 → (((km_a μ31 16 l1.toNatClampNeg) ≤ (km_a μ31 18 l1.toNatClampNeg) → vX12_jams_67 (vX12_jams_12 k73 Q n) Q l1 l2 μ31) ∧ (¬ ((km_a μ31 16 l1.toNatClampNeg) ≤ (km_a μ31 18 l1.toNatClampNeg)) → vX12_at0 l1 l2 μ31 (fun r40 μ39 => vp_in r40 120 → ∀ μ42, μ42 = km_sa μ39 33 r40.toNatClampNeg (vp_nar .boolean 1) → vX12_jams_67 (vX12_jams_12 k73 Q n) Q l1 l2 μ42))))))))
set_option maxRecDepth 100000 in
set_option maxHeartbeats 4000000 in
theorem jcX12_jams_12 {k73 k73' k73'' : Int32 → km_S → Prop} (hk73 : ∀ y0 y1, k73 y0 y1 → k73' y0 y1 → k73'' y0 y1) {Q Q' Q'' : km_S → Prop} (hQ : ∀ y0, Q y0 → Q' y0 → Q'' y0) : ∀ (n : Nat) (l1 : Int32) (l2 : Int32) (μ : km_S), wX12_jams_12 k73 Q n l1 l2 μ → vX12_jams_12 k73' Q' n l1 l2 μ → wX12_jams_12 k73'' Q'' n l1 l2 μ := by
  intro n
  induction n with
  | zero => intro l1 l2 μ h; exact h.elim
  | succ n ih =>
    intro l1 l2 μ h v
    unfold wX12_jams_12 at h
    unfold vX12_jams_12 at v
    unfold wX12_jams_12
    refine ⟨h.1, ?_⟩
    have v := v h.1
    have h := h.2
    refine ⟨?_, ?_⟩
    · have h := h.1
      have v := v.1
      intro e2
      have h := h e2
      have v := v e2
      exact hk73 _ _ h v
    · have h := h.2
      have v := v.2
      intro e3
      have h := h e3
      have v := v e3
      refine jcX12_at0 ?_ _ _ _ h v
      intro r32 μ31 h v
      refine ⟨h.1, ?_⟩
      have v := v h.1
      have h := h.2
      refine ⟨h.1, ?_⟩
      have v := v h.1
      have h := h.2
      refine ⟨?_, ?_⟩
      · have h := h.1
        have v := v.1
        intro e6
        have h := h e6
        have v := v e6
        exact jcX12_jams_67 (k12 := wX12_jams_12 k73 Q n) (k12' := vX12_jams_12 k73' Q' n) (k12'' := wX12_jams_12 k73'' Q'' n) (fun _ _ _ h v => ih _ _ _ h v) hQ _ _ _ h v
      · have h := h.2
        have v := v.2
        intro e7
        have h := h e7
        have v := v e7
        refine ⟨h.1, ?_⟩
        have v := v h.1
        have h := h.2
        refine ⟨h.1, ?_⟩
        have v := v h.1
        have h := h.2
        refine ⟨?_, ?_⟩
        · have h := h.1
          have v := v.1
          intro e10
          have h := h e10
          have v := v e10
          exact jcX12_jams_67 (k12 := wX12_jams_12 k73 Q n) (k12' := vX12_jams_12 k73' Q' n) (k12'' := wX12_jams_12 k73'' Q'' n) (fun _ _ _ h v => ih _ _ _ h v) hQ _ _ _ h v
        · have h := h.2
          have v := v.2
          intro e11
          have h := h e11
          have v := v e11
          refine jcX12_at0 ?_ _ _ _ h v
          intro r40 μ39 h v
          refine ⟨h.1, ?_⟩
          have v := v h.1
          have h := h.2
          intro μ42 e13
          have h := h μ42 e13
          have v := v μ42 e13
          exact jcX12_jams_67 (k12 := wX12_jams_12 k73 Q n) (k12' := vX12_jams_12 k73' Q' n) (k12'' := wX12_jams_12 k73'' Q'' n) (fun _ _ _ h v => ih _ _ _ h v) hQ _ _ _ h v
set_option maxRecDepth 100000 in
set_option maxHeartbeats 4000000 in
theorem jaX12_jams_12 {k73 k73' : Int32 → km_S → Prop} (hk73 : ∀ y0 y1, k73 y0 y1 → k73' y0 y1) {Q Q' : km_S → Prop} (hQ : ∀ y0, Q y0 → Q' y0) : ∀ (n m : Nat) (l1 : Int32) (l2 : Int32) (μ : km_S), wX12_jams_12 k73 Q n l1 l2 μ → vX12_jams_12 k73' Q' m l1 l2 μ := by
  intro n
  induction n with
  | zero => intro m l1 l2 μ h; exact h.elim
  | succ n ih =>
    intro m l1 l2 μ h
    cases m with
    | zero => exact trivial
    | succ m =>
      unfold wX12_jams_12 at h
      unfold vX12_jams_12
      intro e1
      have h := h.2
      refine ⟨?_, ?_⟩
      · have h := h.1
        intro e2
        have h := h e2
        exact hk73 _ _ h
      · have h := h.2
        intro e3
        have h := h e3
        refine jaX12_at0 ?_ _ _ _ h
        intro r32 μ31 h
        intro e4
        have h := h.2
        intro e5
        have h := h.2
        refine ⟨?_, ?_⟩
        · have h := h.1
          intro e6
          have h := h e6
          exact jaX12_jams_67 (k12 := wX12_jams_12 k73 Q n) (k12' := vX12_jams_12 k73' Q' m) (fun _ _ _ h => ih m _ _ _ h) hQ _ _ _ h
        · have h := h.2
          intro e7
          have h := h e7
          intro e8
          have h := h.2
          intro e9
          have h := h.2
          refine ⟨?_, ?_⟩
          · have h := h.1
            intro e10
            have h := h e10
            exact jaX12_jams_67 (k12 := wX12_jams_12 k73 Q n) (k12' := vX12_jams_12 k73' Q' m) (fun _ _ _ h => ih m _ _ _ h) hQ _ _ _ h
          · have h := h.2
            intro e11
            have h := h e11
            refine jaX12_at0 ?_ _ _ _ h
            intro r40 μ39 h
            intro e12
            have h := h.2
            intro μ42 e13
            have h := h μ42 e13
            exact jaX12_jams_67 (k12 := wX12_jams_12 k73 Q n) (k12' := vX12_jams_12 k73' Q' m) (fun _ _ _ h => ih m _ _ _ h) hQ _ _ _ h
set_option maxRecDepth 100000 in
set_option maxHeartbeats 4000000 in
theorem jfX12_jams_12 {I : km_S → Prop} (W : gw_ I [33]) {k73 : Int32 → km_S → Prop} (hk73 : ∀ y0 y1, I y1 → k73 y0 y1) {Q : km_S → Prop} (hQ : ∀ y0, I y0 → Q y0) : ∀ (n : Nat) (l1 : Int32) (l2 : Int32) (μ : km_S), I μ → vX12_jams_12 k73 Q n l1 l2 μ := by
  intro n
  induction n with
  | zero => intro l1 l2 μ i; exact trivial
  | succ n ih =>
    intro l1 l2 μ i
    unfold vX12_jams_12
    intro e1
    refine ⟨?_, ?_⟩
    · intro e2
      exact hk73 _ _ i
    · intro e3
      refine jfX12_at0 (I := I) (gw_sub W (by decide)) ?_ _ _ _ i
      intro r32 μ31 iμ31
      intro e4
      intro e5
      refine ⟨?_, ?_⟩
      · intro e6
        exact jfX12_jams_67 (I := I) (gw_sub W (by decide)) (k12 := vX12_jams_12 k73 Q n) (fun _ _ _ i => ih _ _ _ i) hQ _ _ _ iμ31
      · intro e7
        intro e8
        intro e9
        refine ⟨?_, ?_⟩
        · intro e10
          exact jfX12_jams_67 (I := I) (gw_sub W (by decide)) (k12 := vX12_jams_12 k73 Q n) (fun _ _ _ i => ih _ _ _ i) hQ _ _ _ iμ31
        · intro e11
          refine jfX12_at0 (I := I) (gw_sub W (by decide)) ?_ _ _ _ iμ31
          intro r40 μ39 iμ39
          intro e12
          intro μ42 e13
          have iμ42 : I μ42 := by rw [e13]; exact ((W _ iμ39) 33 (by decide)).2.1 _ _
          exact jfX12_jams_67 (I := I) (gw_sub W (by decide)) (k12 := vX12_jams_12 k73 Q n) (fun _ _ _ i => ih _ _ _ i) hQ _ _ _ iμ42
def vX12_jams_2 (k79 : km_S → Prop) (Q : km_S → Prop) : Nat → Int32 → km_S → Prop
  | 0, _, _ => True
  | n + 1, l1, μ => (((km_i μ 3) ≤ l1 → k79 μ) ∧ (¬ ((km_i μ 3) ≤ l1) → ∀ j, vX12_jams_12 (vX12_jams_73 (vX12_jams_2 k79 Q n) Q) Q j l1 0 μ))
set_option maxRecDepth 100000 in
set_option maxHeartbeats 4000000 in
theorem jcX12_jams_2 {k79 k79' k79'' : km_S → Prop} (hk79 : ∀ y0, k79 y0 → k79' y0 → k79'' y0) {Q Q' Q'' : km_S → Prop} (hQ : ∀ y0, Q y0 → Q' y0 → Q'' y0) : ∀ (n : Nat) (l1 : Int32) (μ : km_S), wX12_jams_2 k79 Q n l1 μ → vX12_jams_2 k79' Q' n l1 μ → wX12_jams_2 k79'' Q'' n l1 μ := by
  intro n
  induction n with
  | zero => intro l1 μ h; exact h.elim
  | succ n ih =>
    intro l1 μ h v
    unfold wX12_jams_2 at h
    unfold vX12_jams_2 at v
    unfold wX12_jams_2
    refine ⟨?_, ?_⟩
    · have h := h.1
      have v := v.1
      intro e1
      have h := h e1
      have v := v e1
      exact hk79 _ h v
    · have h := h.2
      have v := v.2
      intro e2
      have h := h e2
      have v := v e2
      obtain ⟨j, h⟩ := h
      refine ⟨j, ?_⟩
      have v := v j
      exact jcX12_jams_12 (k73 := wX12_jams_73 (wX12_jams_2 k79 Q n) Q) (k73' := vX12_jams_73 (vX12_jams_2 k79' Q' n) Q') (k73'' := wX12_jams_73 (wX12_jams_2 k79'' Q'' n) Q'') (fun _ _ h v => jcX12_jams_73 (k2 := wX12_jams_2 k79 Q n) (k2' := vX12_jams_2 k79' Q' n) (k2'' := wX12_jams_2 k79'' Q'' n) (fun _ _ h v => ih _ _ h v) hQ _ _ h v) hQ _ _ _ _ h v
set_option maxRecDepth 100000 in
set_option maxHeartbeats 4000000 in
theorem jaX12_jams_2 {k79 k79' : km_S → Prop} (hk79 : ∀ y0, k79 y0 → k79' y0) {Q Q' : km_S → Prop} (hQ : ∀ y0, Q y0 → Q' y0) : ∀ (n m : Nat) (l1 : Int32) (μ : km_S), wX12_jams_2 k79 Q n l1 μ → vX12_jams_2 k79' Q' m l1 μ := by
  intro n
  induction n with
  | zero => intro m l1 μ h; exact h.elim
  | succ n ih =>
    intro m l1 μ h
    cases m with
    | zero => exact trivial
    | succ m =>
      unfold wX12_jams_2 at h
      unfold vX12_jams_2
      refine ⟨?_, ?_⟩
      · have h := h.1
        intro e1
        have h := h e1
        exact hk79 _ h
      · have h := h.2
        intro e2
        have h := h e2
        obtain ⟨j, h⟩ := h
        intro j9
        exact jaX12_jams_12 (k73 := wX12_jams_73 (wX12_jams_2 k79 Q n) Q) (k73' := vX12_jams_73 (vX12_jams_2 k79' Q' m) Q') (fun _ _ h => jaX12_jams_73 (k2 := wX12_jams_2 k79 Q n) (k2' := vX12_jams_2 k79' Q' m) (fun _ _ h => ih m _ _ h) hQ _ _ h) hQ _ j9 _ _ _ h
set_option maxRecDepth 100000 in
set_option maxHeartbeats 4000000 in
theorem jfX12_jams_2 {I : km_S → Prop} (W : gw_ I [33]) {k79 : km_S → Prop} (hk79 : ∀ y0, I y0 → k79 y0) {Q : km_S → Prop} (hQ : ∀ y0, I y0 → Q y0) : ∀ (n : Nat) (l1 : Int32) (μ : km_S), I μ → vX12_jams_2 k79 Q n l1 μ := by
  intro n
  induction n with
  | zero => intro l1 μ i; exact trivial
  | succ n ih =>
    intro l1 μ i
    unfold vX12_jams_2
    refine ⟨?_, ?_⟩
    · intro e1
      exact hk79 _ i
    · intro e2
      intro j
      exact jfX12_jams_12 (I := I) (gw_sub W (by decide)) (k73 := vX12_jams_73 (vX12_jams_2 k79 Q n) Q) (fun _ _ i => jfX12_jams_73 (I := I) (gw_sub W (by decide)) (k2 := vX12_jams_2 k79 Q n) (fun _ _ i => ih _ _ i) hQ _ _ i) hQ _ _ _ _ i
def vX12_jams_135 (k81 : Int32 → km_S → Prop) (Q : km_S → Prop) (l1 : Int32) (l2 : Int32) (l3 : Int32) (μ : km_S) : Prop := ((l3 = (-1) → vX12_jams_205 k81 Q l1 μ) ∧ (¬ (l3 = (-1)) → vp_in l1 6 → ((((km_i μ 2) - 1) < (km_a μ 45 l1.toNatClampNeg) → vX12_jams_205 k81 Q l1 μ) ∧ (¬ (((km_i μ 2) - 1) < (km_a μ 45 l1.toNatClampNeg)) → vp_in l1 6 → ((¬ (km_a μ 46 l1.toNatClampNeg) = ((km_i μ 2) - 1) → vX12_at0 l2 l3 μ (fun r51 μ50 => vp_in r51 120 → ∀ μ53, μ53 = km_sa μ50 33 r51.toNatClampNeg (vp_nar .boolean 0) → vX12_at0 l2 l3 μ53 (fun r55 μ54 => vp_in r55 120 → ∀ μ57, μ57 = km_sa μ54 34 r55.toNatClampNeg (vp_nar .boolean 0) → vp_in l1 6 → ∀ μ59, μ59 = km_sa μ57 46 l1.toNatClampNeg (km_i μ57 2) → vX12_jams_205 k81 Q l1 μ59))) ∧ ((km_a μ 46 l1.toNatClampNeg) = ((km_i μ 2) - 1) → vX12_jams_205 k81 Q l1 μ))))))
set_option maxRecDepth 100000 in
set_option maxHeartbeats 4000000 in
theorem jcX12_jams_135 {k81 k81' k81'' : Int32 → km_S → Prop} (hk81 : ∀ y0 y1, k81 y0 y1 → k81' y0 y1 → k81'' y0 y1) {Q Q' Q'' : km_S → Prop} (hQ : ∀ y0, Q y0 → Q' y0 → Q'' y0) : ∀ (l1 : Int32) (l2 : Int32) (l3 : Int32) (μ : km_S), wX12_jams_135 k81 Q l1 l2 l3 μ → vX12_jams_135 k81' Q' l1 l2 l3 μ → wX12_jams_135 k81'' Q'' l1 l2 l3 μ := by
  intro l1 l2 l3 μ h v
  unfold wX12_jams_135 at h
  unfold vX12_jams_135 at v
  unfold wX12_jams_135
  refine ⟨?_, ?_⟩
  · have h := h.1
    have v := v.1
    intro e1
    have h := h e1
    have v := v e1
    exact jcX12_jams_205 hk81 hQ _ _ h v
  · have h := h.2
    have v := v.2
    intro e2
    have h := h e2
    have v := v e2
    refine ⟨h.1, ?_⟩
    have v := v h.1
    have h := h.2
    refine ⟨?_, ?_⟩
    · have h := h.1
      have v := v.1
      intro e4
      have h := h e4
      have v := v e4
      exact jcX12_jams_205 hk81 hQ _ _ h v
    · have h := h.2
      have v := v.2
      intro e5
      have h := h e5
      have v := v e5
      refine ⟨h.1, ?_⟩
      have v := v h.1
      have h := h.2
      refine ⟨?_, ?_⟩
      · have h := h.1
        have v := v.1
        intro e7
        have h := h e7
        have v := v e7
        refine jcX12_at0 ?_ _ _ _ h v
        intro r51 μ50 h v
        refine ⟨h.1, ?_⟩
        have v := v h.1
        have h := h.2
        intro μ53 e9
        have h := h μ53 e9
        have v := v μ53 e9
        refine jcX12_at0 ?_ _ _ _ h v
        intro r55 μ54 h v
        refine ⟨h.1, ?_⟩
        have v := v h.1
        have h := h.2
        intro μ57 e11
        have h := h μ57 e11
        have v := v μ57 e11
        refine ⟨h.1, ?_⟩
        have v := v h.1
        have h := h.2
        intro μ59 e13
        have h := h μ59 e13
        have v := v μ59 e13
        exact jcX12_jams_205 hk81 hQ _ _ h v
      · have h := h.2
        have v := v.2
        intro e14
        have h := h e14
        have v := v e14
        exact jcX12_jams_205 hk81 hQ _ _ h v
set_option maxRecDepth 100000 in
set_option maxHeartbeats 4000000 in
theorem jaX12_jams_135 {k81 k81' : Int32 → km_S → Prop} (hk81 : ∀ y0 y1, k81 y0 y1 → k81' y0 y1) {Q Q' : km_S → Prop} (hQ : ∀ y0, Q y0 → Q' y0) : ∀ (l1 : Int32) (l2 : Int32) (l3 : Int32) (μ : km_S), wX12_jams_135 k81 Q l1 l2 l3 μ → vX12_jams_135 k81' Q' l1 l2 l3 μ := by
  intro l1 l2 l3 μ h
  unfold wX12_jams_135 at h
  unfold vX12_jams_135
  refine ⟨?_, ?_⟩
  · have h := h.1
    intro e1
    have h := h e1
    exact jaX12_jams_205 hk81 hQ _ _ h
  · have h := h.2
    intro e2
    have h := h e2
    intro e3
    have h := h.2
    refine ⟨?_, ?_⟩
    · have h := h.1
      intro e4
      have h := h e4
      exact jaX12_jams_205 hk81 hQ _ _ h
    · have h := h.2
      intro e5
      have h := h e5
      intro e6
      have h := h.2
      refine ⟨?_, ?_⟩
      · have h := h.1
        intro e7
        have h := h e7
        refine jaX12_at0 ?_ _ _ _ h
        intro r51 μ50 h
        intro e8
        have h := h.2
        intro μ53 e9
        have h := h μ53 e9
        refine jaX12_at0 ?_ _ _ _ h
        intro r55 μ54 h
        intro e10
        have h := h.2
        intro μ57 e11
        have h := h μ57 e11
        intro e12
        have h := h.2
        intro μ59 e13
        have h := h μ59 e13
        exact jaX12_jams_205 hk81 hQ _ _ h
      · have h := h.2
        intro e14
        have h := h e14
        exact jaX12_jams_205 hk81 hQ _ _ h
set_option maxRecDepth 100000 in
set_option maxHeartbeats 4000000 in
theorem jfX12_jams_135 {I : km_S → Prop} (W : gw_ I [33, 34, 46]) {k81 : Int32 → km_S → Prop} (hk81 : ∀ y0 y1, I y1 → k81 y0 y1) {Q : km_S → Prop} (hQ : ∀ y0, I y0 → Q y0) : ∀ (l1 : Int32) (l2 : Int32) (l3 : Int32) (μ : km_S), I μ → vX12_jams_135 k81 Q l1 l2 l3 μ := by
  intro l1 l2 l3 μ i
  unfold vX12_jams_135
  refine ⟨?_, ?_⟩
  · intro e1
    exact jfX12_jams_205 (I := I) (gw_sub W (by decide)) hk81 hQ _ _ i
  · intro e2
    intro e3
    refine ⟨?_, ?_⟩
    · intro e4
      exact jfX12_jams_205 (I := I) (gw_sub W (by decide)) hk81 hQ _ _ i
    · intro e5
      intro e6
      refine ⟨?_, ?_⟩
      · intro e7
        refine jfX12_at0 (I := I) (gw_sub W (by decide)) ?_ _ _ _ i
        intro r51 μ50 iμ50
        intro e8
        intro μ53 e9
        have iμ53 : I μ53 := by rw [e9]; exact ((W _ iμ50) 33 (by decide)).2.1 _ _
        refine jfX12_at0 (I := I) (gw_sub W (by decide)) ?_ _ _ _ iμ53
        intro r55 μ54 iμ54
        intro e10
        intro μ57 e11
        have iμ57 : I μ57 := by rw [e11]; exact ((W _ iμ54) 34 (by decide)).2.1 _ _
        intro e12
        intro μ59 e13
        have iμ59 : I μ59 := by rw [e13]; exact ((W _ iμ57) 46 (by decide)).2.1 _ _
        exact jfX12_jams_205 (I := I) (gw_sub W (by decide)) hk81 hQ _ _ iμ59
      · intro e14
        exact jfX12_jams_205 (I := I) (gw_sub W (by decide)) hk81 hQ _ _ i
def vX12_jams_213 (Q : km_S → Prop) : Nat → Int32 → km_S → Prop
  | 0, _, _ => True
  | n + 1, l1, μ => (((km_i μ 3) ≤ l1 → Q μ) ∧ (¬ ((km_i μ 3) ≤ l1) → vp_in l1 10 → ∀ v62, v62 = km_a μ 23 l1.toNatClampNeg → ∀ j, vX12_jams_230 (vX12_jams_256 (vX12_jams_213 Q n) Q) Q j l1 v62 0 μ))
set_option maxRecDepth 100000 in
set_option maxHeartbeats 4000000 in
theorem jcX12_jams_213 {Q Q' Q'' : km_S → Prop} (hQ : ∀ y0, Q y0 → Q' y0 → Q'' y0) : ∀ (n : Nat) (l1 : Int32) (μ : km_S), wX12_jams_213 Q n l1 μ → vX12_jams_213 Q' n l1 μ → wX12_jams_213 Q'' n l1 μ := by
  intro n
  induction n with
  | zero => intro l1 μ h; exact h.elim
  | succ n ih =>
    intro l1 μ h v
    unfold wX12_jams_213 at h
    unfold vX12_jams_213 at v
    unfold wX12_jams_213
    refine ⟨?_, ?_⟩
    · have h := h.1
      have v := v.1
      intro e1
      have h := h e1
      have v := v e1
      exact hQ _ h v
    · have h := h.2
      have v := v.2
      intro e2
      have h := h e2
      have v := v e2
      refine ⟨h.1, ?_⟩
      have v := v h.1
      have h := h.2
      intro v62 e4
      have h := h v62 e4
      have v := v v62 e4
      obtain ⟨j, h⟩ := h
      refine ⟨j, ?_⟩
      have v := v j
      exact jcX12_jams_230 (k256 := wX12_jams_256 (wX12_jams_213 Q n) Q) (k256' := vX12_jams_256 (vX12_jams_213 Q' n) Q') (k256'' := wX12_jams_256 (wX12_jams_213 Q'' n) Q'') (fun _ _ _ h v => jcX12_jams_256 (k213 := wX12_jams_213 Q n) (k213' := vX12_jams_213 Q' n) (k213'' := wX12_jams_213 Q'' n) (fun _ _ h v => ih _ _ h v) hQ _ _ _ h v) hQ _ _ _ _ _ h v
set_option maxRecDepth 100000 in
set_option maxHeartbeats 4000000 in
theorem jaX12_jams_213 {Q Q' : km_S → Prop} (hQ : ∀ y0, Q y0 → Q' y0) : ∀ (n m : Nat) (l1 : Int32) (μ : km_S), wX12_jams_213 Q n l1 μ → vX12_jams_213 Q' m l1 μ := by
  intro n
  induction n with
  | zero => intro m l1 μ h; exact h.elim
  | succ n ih =>
    intro m l1 μ h
    cases m with
    | zero => exact trivial
    | succ m =>
      unfold wX12_jams_213 at h
      unfold vX12_jams_213
      refine ⟨?_, ?_⟩
      · have h := h.1
        intro e1
        have h := h e1
        exact hQ _ h
      · have h := h.2
        intro e2
        have h := h e2
        intro e3
        have h := h.2
        intro v62 e4
        have h := h v62 e4
        obtain ⟨j, h⟩ := h
        intro j9
        exact jaX12_jams_230 (k256 := wX12_jams_256 (wX12_jams_213 Q n) Q) (k256' := vX12_jams_256 (vX12_jams_213 Q' m) Q') (fun _ _ _ h => jaX12_jams_256 (k213 := wX12_jams_213 Q n) (k213' := vX12_jams_213 Q' m) (fun _ _ h => ih m _ _ h) hQ _ _ _ h) hQ _ j9 _ _ _ _ h
set_option maxRecDepth 100000 in
set_option maxHeartbeats 4000000 in
theorem jfX12_jams_213 {I : km_S → Prop} (W : gw_ I [34]) {Q : km_S → Prop} (hQ : ∀ y0, I y0 → Q y0) : ∀ (n : Nat) (l1 : Int32) (μ : km_S), I μ → vX12_jams_213 Q n l1 μ := by
  intro n
  induction n with
  | zero => intro l1 μ i; exact trivial
  | succ n ih =>
    intro l1 μ i
    unfold vX12_jams_213
    refine ⟨?_, ?_⟩
    · intro e1
      exact hQ _ i
    · intro e2
      intro e3
      intro v62 e4
      intro j
      exact jfX12_jams_230 (I := I) (gw_sub W (by decide)) (k256 := vX12_jams_256 (vX12_jams_213 Q n) Q) (fun _ _ _ i => jfX12_jams_256 (I := I) (gw_sub W (by decide)) (k213 := vX12_jams_213 Q n) (fun _ _ i => ih _ _ i) hQ _ _ _ i) hQ _ _ _ _ _ i
def vX12_jams_211 (Q : km_S → Prop) (μ : km_S) : Prop := ∀ j, vX12_jams_213 Q j 0 μ
set_option maxRecDepth 100000 in
set_option maxHeartbeats 4000000 in
theorem jcX12_jams_211 {Q Q' Q'' : km_S → Prop} (hQ : ∀ y0, Q y0 → Q' y0 → Q'' y0) : ∀ (μ : km_S), wX12_jams_211 Q μ → vX12_jams_211 Q' μ → wX12_jams_211 Q'' μ := by
  intro μ h v
  unfold wX12_jams_211 at h
  unfold vX12_jams_211 at v
  unfold wX12_jams_211
  obtain ⟨j, h⟩ := h
  refine ⟨j, ?_⟩
  have v := v j
  exact jcX12_jams_213 hQ _ _ _ h v
set_option maxRecDepth 100000 in
set_option maxHeartbeats 4000000 in
theorem jaX12_jams_211 {Q Q' : km_S → Prop} (hQ : ∀ y0, Q y0 → Q' y0) : ∀ (μ : km_S), wX12_jams_211 Q μ → vX12_jams_211 Q' μ := by
  intro μ h
  unfold wX12_jams_211 at h
  unfold vX12_jams_211
  obtain ⟨j, h⟩ := h
  intro j9
  exact jaX12_jams_213 hQ _ j9 _ _ h
set_option maxRecDepth 100000 in
set_option maxHeartbeats 4000000 in
theorem jfX12_jams_211 {I : km_S → Prop} (W : gw_ I [34]) {Q : km_S → Prop} (hQ : ∀ y0, I y0 → Q y0) : ∀ (μ : km_S), I μ → vX12_jams_211 Q μ := by
  intro μ i
  unfold vX12_jams_211
  intro j
  exact jfX12_jams_213 (I := I) (gw_sub W (by decide)) hQ _ _ _ i
end
section
def vX12_jams_81 (k211 : km_S → Prop) (Q : km_S → Prop) : Nat → Int32 → km_S → Prop
  | 0, _, _ => True
  | n + 1, l1, μ => (((km_i μ 7) ≤ l1 → k211 μ) ∧ (¬ ((km_i μ 7) ≤ l1) → vp_in l1 6 → ∀ v67, v67 = km_a μ 44 l1.toNatClampNeg → ∀ j, vX12_jams_101 (vX12_jams_135 (vX12_jams_81 k211 Q n) Q) Q j l1 v67 (-1) 0 μ))
set_option maxRecDepth 100000 in
set_option maxHeartbeats 4000000 in
theorem jcX12_jams_81 {k211 k211' k211'' : km_S → Prop} (hk211 : ∀ y0, k211 y0 → k211' y0 → k211'' y0) {Q Q' Q'' : km_S → Prop} (hQ : ∀ y0, Q y0 → Q' y0 → Q'' y0) : ∀ (n : Nat) (l1 : Int32) (μ : km_S), wX12_jams_81 k211 Q n l1 μ → vX12_jams_81 k211' Q' n l1 μ → wX12_jams_81 k211'' Q'' n l1 μ := by
  intro n
  induction n with
  | zero => intro l1 μ h; exact h.elim
  | succ n ih =>
    intro l1 μ h v
    unfold wX12_jams_81 at h
    unfold vX12_jams_81 at v
    unfold wX12_jams_81
    refine ⟨?_, ?_⟩
    · have h := h.1
      have v := v.1
      intro e1
      have h := h e1
      have v := v e1
      exact hk211 _ h v
    · have h := h.2
      have v := v.2
      intro e2
      have h := h e2
      have v := v e2
      refine ⟨h.1, ?_⟩
      have v := v h.1
      have h := h.2
      intro v67 e4
      have h := h v67 e4
      have v := v v67 e4
      obtain ⟨j, h⟩ := h
      refine ⟨j, ?_⟩
      have v := v j
      exact jcX12_jams_101 (k135 := wX12_jams_135 (wX12_jams_81 k211 Q n) Q) (k135' := vX12_jams_135 (vX12_jams_81 k211' Q' n) Q') (k135'' := wX12_jams_135 (wX12_jams_81 k211'' Q'' n) Q'') (fun _ _ _ _ h v => jcX12_jams_135 (k81 := wX12_jams_81 k211 Q n) (k81' := vX12_jams_81 k211' Q' n) (k81'' := wX12_jams_81 k211'' Q'' n) (fun _ _ h v => ih _ _ h v) hQ _ _ _ _ h v) hQ _ _ _ _ _ _ h v
set_option maxRecDepth 100000 in
set_option maxHeartbeats 4000000 in
theorem jaX12_jams_81 {k211 k211' : km_S → Prop} (hk211 : ∀ y0, k211 y0 → k211' y0) {Q Q' : km_S → Prop} (hQ : ∀ y0, Q y0 → Q' y0) : ∀ (n m : Nat) (l1 : Int32) (μ : km_S), wX12_jams_81 k211 Q n l1 μ → vX12_jams_81 k211' Q' m l1 μ := by
  intro n
  induction n with
  | zero => intro m l1 μ h; exact h.elim
  | succ n ih =>
    intro m l1 μ h
    cases m with
    | zero => exact trivial
    | succ m =>
      unfold wX12_jams_81 at h
      unfold vX12_jams_81
      refine ⟨?_, ?_⟩
      · have h := h.1
        intro e1
        have h := h e1
        exact hk211 _ h
      · have h := h.2
        intro e2
        have h := h e2
        intro e3
        have h := h.2
        intro v67 e4
        have h := h v67 e4
        obtain ⟨j, h⟩ := h
        intro j9
        exact jaX12_jams_101 (k135 := wX12_jams_135 (wX12_jams_81 k211 Q n) Q) (k135' := vX12_jams_135 (vX12_jams_81 k211' Q' m) Q') (fun _ _ _ _ h => jaX12_jams_135 (k81 := wX12_jams_81 k211 Q n) (k81' := vX12_jams_81 k211' Q' m) (fun _ _ h => ih m _ _ h) hQ _ _ _ _ h) hQ _ j9 _ _ _ _ _ h
set_option maxRecDepth 100000 in
set_option maxHeartbeats 4000000 in
theorem jfX12_jams_81 {I : km_S → Prop} (W : gw_ I [33, 34, 46]) {k211 : km_S → Prop} (hk211 : ∀ y0, I y0 → k211 y0) {Q : km_S → Prop} (hQ : ∀ y0, I y0 → Q y0) : ∀ (n : Nat) (l1 : Int32) (μ : km_S), I μ → vX12_jams_81 k211 Q n l1 μ := by
  intro n
  induction n with
  | zero => intro l1 μ i; exact trivial
  | succ n ih =>
    intro l1 μ i
    unfold vX12_jams_81
    refine ⟨?_, ?_⟩
    · intro e1
      exact hk211 _ i
    · intro e2
      intro e3
      intro v67 e4
      intro j
      exact jfX12_jams_101 (I := I) (gw_sub W (by decide)) (k135 := vX12_jams_135 (vX12_jams_81 k211 Q n) Q) (fun _ _ _ _ i => jfX12_jams_135 (I := I) (gw_sub W (by decide)) (k81 := vX12_jams_81 k211 Q n) (fun _ _ i => ih _ _ i) hQ _ _ _ _ i) hQ _ _ _ _ _ _ i
def vX12_jams_79 (Q : km_S → Prop) (μ : km_S) : Prop := ∀ j, vX12_jams_81 (vX12_jams_211 Q) Q j 0 μ
set_option maxRecDepth 100000 in
set_option maxHeartbeats 4000000 in
theorem jcX12_jams_79 {Q Q' Q'' : km_S → Prop} (hQ : ∀ y0, Q y0 → Q' y0 → Q'' y0) : ∀ (μ : km_S), wX12_jams_79 Q μ → vX12_jams_79 Q' μ → wX12_jams_79 Q'' μ := by
  intro μ h v
  unfold wX12_jams_79 at h
  unfold vX12_jams_79 at v
  unfold wX12_jams_79
  obtain ⟨j, h⟩ := h
  refine ⟨j, ?_⟩
  have v := v j
  exact jcX12_jams_81 (k211 := wX12_jams_211 Q) (k211' := vX12_jams_211 Q') (k211'' := wX12_jams_211 Q'') (fun _ h v => jcX12_jams_211 hQ _ h v) hQ _ _ _ h v
set_option maxRecDepth 100000 in
set_option maxHeartbeats 4000000 in
theorem jaX12_jams_79 {Q Q' : km_S → Prop} (hQ : ∀ y0, Q y0 → Q' y0) : ∀ (μ : km_S), wX12_jams_79 Q μ → vX12_jams_79 Q' μ := by
  intro μ h
  unfold wX12_jams_79 at h
  unfold vX12_jams_79
  obtain ⟨j, h⟩ := h
  intro j9
  exact jaX12_jams_81 (k211 := wX12_jams_211 Q) (k211' := vX12_jams_211 Q') (fun _ h => jaX12_jams_211 hQ _ h) hQ _ j9 _ _ h
set_option maxRecDepth 100000 in
set_option maxHeartbeats 4000000 in
theorem jfX12_jams_79 {I : km_S → Prop} (W : gw_ I [33, 34, 46]) {Q : km_S → Prop} (hQ : ∀ y0, I y0 → Q y0) : ∀ (μ : km_S), I μ → vX12_jams_79 Q μ := by
  intro μ i
  unfold vX12_jams_79
  intro j
  exact jfX12_jams_81 (I := I) (gw_sub W (by decide)) (k211 := vX12_jams_211 Q) (fun _ i => jfX12_jams_211 (I := I) (gw_sub W (by decide)) hQ _ i) hQ _ _ _ i
def vX12_jams (μ : km_S) (Q : km_S → Prop) : Prop := ∀ j, vX12_jams_2 (vX12_jams_79 Q) Q j 0 μ
set_option maxRecDepth 100000 in
set_option maxHeartbeats 4000000 in
theorem jcX12_jams {Q Q' Q'' : km_S → Prop} (hQ : ∀ y0, Q y0 → Q' y0 → Q'' y0) : ∀ (μ : km_S), wX12_jams μ Q → vX12_jams μ Q' → wX12_jams μ Q'' := by
  intro μ h v
  unfold wX12_jams at h
  unfold vX12_jams at v
  unfold wX12_jams
  obtain ⟨j, h⟩ := h
  refine ⟨j, ?_⟩
  have v := v j
  exact jcX12_jams_2 (k79 := wX12_jams_79 Q) (k79' := vX12_jams_79 Q') (k79'' := wX12_jams_79 Q'') (fun _ h v => jcX12_jams_79 hQ _ h v) hQ _ _ _ h v
set_option maxRecDepth 100000 in
set_option maxHeartbeats 4000000 in
theorem jaX12_jams {Q Q' : km_S → Prop} (hQ : ∀ y0, Q y0 → Q' y0) : ∀ (μ : km_S), wX12_jams μ Q → vX12_jams μ Q' := by
  intro μ h
  unfold wX12_jams at h
  unfold vX12_jams
  obtain ⟨j, h⟩ := h
  intro j9
  exact jaX12_jams_2 (k79 := wX12_jams_79 Q) (k79' := vX12_jams_79 Q') (fun _ h => jaX12_jams_79 hQ _ h) hQ _ j9 _ _ h
set_option maxRecDepth 100000 in
set_option maxHeartbeats 4000000 in
theorem jfX12_jams {I : km_S → Prop} (W : gw_ I [33, 34, 46]) {Q : km_S → Prop} (hQ : ∀ y0, I y0 → Q y0) : ∀ (μ : km_S), I μ → vX12_jams μ Q := by
  intro μ i
  unfold vX12_jams
  intro j
  exact jfX12_jams_2 (I := I) (gw_sub W (by decide)) (k79 := vX12_jams_79 Q) (fun _ i => jfX12_jams_79 (I := I) (gw_sub W (by decide)) hQ _ i) hQ _ _ _ i
def vX12_older_66 (k2 : Int32 → km_S → Prop) (Q : km_S → Prop) (l1 : Int32) (μ : km_S) : Prop := ∀ v1 : Int32, v1 = l1 + 1 → k2 v1 μ
set_option maxRecDepth 100000 in
set_option maxHeartbeats 4000000 in
theorem jcX12_older_66 {k2 k2' k2'' : Int32 → km_S → Prop} (hk2 : ∀ y0 y1, k2 y0 y1 → k2' y0 y1 → k2'' y0 y1) {Q Q' Q'' : km_S → Prop} (hQ : ∀ y0, Q y0 → Q' y0 → Q'' y0) : ∀ (l1 : Int32) (μ : km_S), wX12_older_66 k2 Q l1 μ → vX12_older_66 k2' Q' l1 μ → wX12_older_66 k2'' Q'' l1 μ := by
  intro l1 μ h v
  unfold wX12_older_66 at h
  unfold vX12_older_66 at v
  unfold wX12_older_66
  intro v1 e1
  have h := h v1 e1
  have v := v v1 e1
  exact hk2 _ _ h v
set_option maxRecDepth 100000 in
set_option maxHeartbeats 4000000 in
theorem jaX12_older_66 {k2 k2' : Int32 → km_S → Prop} (hk2 : ∀ y0 y1, k2 y0 y1 → k2' y0 y1) {Q Q' : km_S → Prop} (hQ : ∀ y0, Q y0 → Q' y0) : ∀ (l1 : Int32) (μ : km_S), wX12_older_66 k2 Q l1 μ → vX12_older_66 k2' Q' l1 μ := by
  intro l1 μ h
  unfold wX12_older_66 at h
  unfold vX12_older_66
  intro v1 e1
  have h := h v1 e1
  exact hk2 _ _ h
set_option maxRecDepth 100000 in
set_option maxHeartbeats 4000000 in
theorem jfX12_older_66 {I : km_S → Prop} (W : gw_ I []) {k2 : Int32 → km_S → Prop} (hk2 : ∀ y0 y1, I y1 → k2 y0 y1) {Q : km_S → Prop} (hQ : ∀ y0, I y0 → Q y0) : ∀ (l1 : Int32) (μ : km_S), I μ → vX12_older_66 k2 Q l1 μ := by
  intro l1 μ i
  unfold vX12_older_66
  intro v1 e1
  exact hk2 _ _ i
def vX12_older_2 (Q : km_S → Prop) : Nat → Int32 → km_S → Prop
  | 0, _, _ => True
  | n + 1, l1, μ => (((km_i μ 4) ≤ l1 → Q μ) ∧ (¬ ((km_i μ 4) ≤ l1) → vp_in l1 400 → (((km_a μ 38 l1.toNatClampNeg) = 1 → vp_in l1 400 → vp_in l1 400 → ∀ μ7, μ7 = km_sa μ 41 l1.toNatClampNeg ((km_a μ 41 l1.toNatClampNeg) + 1) → vp_in l1 400 → vp_in l1 400 → (((24 * (km_a μ7 36 l1.toNatClampNeg)) ≤ (km_a μ7 41 l1.toNatClampNeg) → vX12_lift l1 μ7 (fun μ11 => vp_in l1 400 → ∀ μ13, μ13 = km_sa μ11 38 l1.toNatClampNeg 5 → vX12_older_66 (vX12_older_2 Q n) Q l1 μ13)) ∧ (¬ ((24 * (km_a μ7 36 l1.toNatClampNeg)) ≤ (km_a μ7 41 l1.toNatClampNeg)) → vX12_older_66 (vX12_older_2 Q n) Q l1 μ7))) ∧ (¬ ((km_a μ 38 l1.toNatClampNeg) = 1) → vX12_older_66 (vX12_older_2 Q n) Q l1 μ))))
set_option maxRecDepth 100000 in
set_option maxHeartbeats 4000000 in
theorem jcX12_older_2 {Q Q' Q'' : km_S → Prop} (hQ : ∀ y0, Q y0 → Q' y0 → Q'' y0) : ∀ (n : Nat) (l1 : Int32) (μ : km_S), wX12_older_2 Q n l1 μ → vX12_older_2 Q' n l1 μ → wX12_older_2 Q'' n l1 μ := by
  intro n
  induction n with
  | zero => intro l1 μ h; exact h.elim
  | succ n ih =>
    intro l1 μ h v
    unfold wX12_older_2 at h
    unfold vX12_older_2 at v
    unfold wX12_older_2
    refine ⟨?_, ?_⟩
    · have h := h.1
      have v := v.1
      intro e1
      have h := h e1
      have v := v e1
      exact hQ _ h v
    · have h := h.2
      have v := v.2
      intro e2
      have h := h e2
      have v := v e2
      refine ⟨h.1, ?_⟩
      have v := v h.1
      have h := h.2
      refine ⟨?_, ?_⟩
      · have h := h.1
        have v := v.1
        intro e4
        have h := h e4
        have v := v e4
        refine ⟨h.1, ?_⟩
        have v := v h.1
        have h := h.2
        refine ⟨h.1, ?_⟩
        have v := v h.1
        have h := h.2
        intro μ7 e7
        have h := h μ7 e7
        have v := v μ7 e7
        refine ⟨h.1, ?_⟩
        have v := v h.1
        have h := h.2
        refine ⟨h.1, ?_⟩
        have v := v h.1
        have h := h.2
        refine ⟨?_, ?_⟩
        · have h := h.1
          have v := v.1
          intro e10
          have h := h e10
          have v := v e10
          refine jcX12_lift ?_ _ _ h v
          intro μ11 h v
          refine ⟨h.1, ?_⟩
          have v := v h.1
          have h := h.2
          intro μ13 e12
          have h := h μ13 e12
          have v := v μ13 e12
          exact jcX12_older_66 (k2 := wX12_older_2 Q n) (k2' := vX12_older_2 Q' n) (k2'' := wX12_older_2 Q'' n) (fun _ _ h v => ih _ _ h v) hQ _ _ h v
        · have h := h.2
          have v := v.2
          intro e13
          have h := h e13
          have v := v e13
          exact jcX12_older_66 (k2 := wX12_older_2 Q n) (k2' := vX12_older_2 Q' n) (k2'' := wX12_older_2 Q'' n) (fun _ _ h v => ih _ _ h v) hQ _ _ h v
      · have h := h.2
        have v := v.2
        intro e14
        have h := h e14
        have v := v e14
        exact jcX12_older_66 (k2 := wX12_older_2 Q n) (k2' := vX12_older_2 Q' n) (k2'' := wX12_older_2 Q'' n) (fun _ _ h v => ih _ _ h v) hQ _ _ h v
set_option maxRecDepth 100000 in
set_option maxHeartbeats 4000000 in
theorem jaX12_older_2 {Q Q' : km_S → Prop} (hQ : ∀ y0, Q y0 → Q' y0) : ∀ (n m : Nat) (l1 : Int32) (μ : km_S), wX12_older_2 Q n l1 μ → vX12_older_2 Q' m l1 μ := by
  intro n
  induction n with
  | zero => intro m l1 μ h; exact h.elim
  | succ n ih =>
    intro m l1 μ h
    cases m with
    | zero => exact trivial
    | succ m =>
      unfold wX12_older_2 at h
      unfold vX12_older_2
      refine ⟨?_, ?_⟩
      · have h := h.1
        intro e1
        have h := h e1
        exact hQ _ h
      · have h := h.2
        intro e2
        have h := h e2
        intro e3
        have h := h.2
        refine ⟨?_, ?_⟩
        · have h := h.1
          intro e4
          have h := h e4
          intro e5
          have h := h.2
          intro e6
          have h := h.2
          intro μ7 e7
          have h := h μ7 e7
          intro e8
          have h := h.2
          intro e9
          have h := h.2
          refine ⟨?_, ?_⟩
          · have h := h.1
            intro e10
            have h := h e10
            refine jaX12_lift ?_ _ _ h
            intro μ11 h
            intro e11
            have h := h.2
            intro μ13 e12
            have h := h μ13 e12
            exact jaX12_older_66 (k2 := wX12_older_2 Q n) (k2' := vX12_older_2 Q' m) (fun _ _ h => ih m _ _ h) hQ _ _ h
          · have h := h.2
            intro e13
            have h := h e13
            exact jaX12_older_66 (k2 := wX12_older_2 Q n) (k2' := vX12_older_2 Q' m) (fun _ _ h => ih m _ _ h) hQ _ _ h
        · have h := h.2
          intro e14
          have h := h e14
          exact jaX12_older_66 (k2 := wX12_older_2 Q n) (k2' := vX12_older_2 Q' m) (fun _ _ h => ih m _ _ h) hQ _ _ h
set_option maxRecDepth 100000 in
set_option maxHeartbeats 4000000 in
theorem jfX12_older_2 {I : km_S → Prop} (W : gw_ I [31, 32, 38, 41]) {Q : km_S → Prop} (hQ : ∀ y0, I y0 → Q y0) : ∀ (n : Nat) (l1 : Int32) (μ : km_S), I μ → vX12_older_2 Q n l1 μ := by
  intro n
  induction n with
  | zero => intro l1 μ i; exact trivial
  | succ n ih =>
    intro l1 μ i
    unfold vX12_older_2
    refine ⟨?_, ?_⟩
    · intro e1
      exact hQ _ i
    · intro e2
      intro e3
      refine ⟨?_, ?_⟩
      · intro e4
        intro e5
        intro e6
        intro μ7 e7
        have iμ7 : I μ7 := by rw [e7]; exact ((W _ i) 41 (by decide)).2.1 _ _
        intro e8
        intro e9
        refine ⟨?_, ?_⟩
        · intro e10
          refine jfX12_lift (I := I) (gw_sub W (by decide)) ?_ _ _ iμ7
          intro μ11 iμ11
          intro e11
          intro μ13 e12
          have iμ13 : I μ13 := by rw [e12]; exact ((W _ iμ11) 38 (by decide)).2.1 _ _
          exact jfX12_older_66 (I := I) (gw_sub W (by decide)) (k2 := vX12_older_2 Q n) (fun _ _ i => ih _ _ i) hQ _ _ iμ13
        · intro e13
          exact jfX12_older_66 (I := I) (gw_sub W (by decide)) (k2 := vX12_older_2 Q n) (fun _ _ i => ih _ _ i) hQ _ _ iμ7
      · intro e14
        exact jfX12_older_66 (I := I) (gw_sub W (by decide)) (k2 := vX12_older_2 Q n) (fun _ _ i => ih _ _ i) hQ _ _ i
def vX12_older (μ : km_S) (Q : km_S → Prop) : Prop := ∀ j, vX12_older_2 Q j 0 μ
set_option maxRecDepth 100000 in
set_option maxHeartbeats 4000000 in
theorem jcX12_older {Q Q' Q'' : km_S → Prop} (hQ : ∀ y0, Q y0 → Q' y0 → Q'' y0) : ∀ (μ : km_S), wX12_older μ Q → vX12_older μ Q' → wX12_older μ Q'' := by
  intro μ h v
  unfold wX12_older at h
  unfold vX12_older at v
  unfold wX12_older
  obtain ⟨j, h⟩ := h
  refine ⟨j, ?_⟩
  have v := v j
  exact jcX12_older_2 hQ _ _ _ h v
set_option maxRecDepth 100000 in
set_option maxHeartbeats 4000000 in
theorem jaX12_older {Q Q' : km_S → Prop} (hQ : ∀ y0, Q y0 → Q' y0) : ∀ (μ : km_S), wX12_older μ Q → vX12_older μ Q' := by
  intro μ h
  unfold wX12_older at h
  unfold vX12_older
  obtain ⟨j, h⟩ := h
  intro j9
  exact jaX12_older_2 hQ _ j9 _ _ h
set_option maxRecDepth 100000 in
set_option maxHeartbeats 4000000 in
theorem jfX12_older {I : km_S → Prop} (W : gw_ I [31, 32, 38, 41]) {Q : km_S → Prop} (hQ : ∀ y0, I y0 → Q y0) : ∀ (μ : km_S), I μ → vX12_older μ Q := by
  intro μ i
  unfold vX12_older
  intro j
  exact jfX12_older_2 (I := I) (gw_sub W (by decide)) hQ _ _ _ i
def vX12_saw_19 (Q : km_S → Prop) : Nat → Int32 → Int32 → km_S → Prop
  | 0, _, _, _ => True
  | n + 1, l1, l2, μ => vp_in l1 400 → (((km_a μ 36 l1.toNatClampNeg) ≤ l2 → Q μ) ∧ (¬ ((km_a μ 36 l1.toNatClampNeg) ≤ l2) → vp_in (km_i μ 6) 3600 → ∀ μ4, μ4 = km_sa μ 43 (km_i μ 6).toNatClampNeg l1 → ∀ μ5, μ5 = km_si μ4 6 ((km_i μ4 6) + 1) → ∀ v6 : Int32, v6 = l2 + 1 → vX12_saw_19 Q n l1 v6 μ5))
set_option maxRecDepth 100000 in
set_option maxHeartbeats 4000000 in
theorem jcX12_saw_19 {Q Q' Q'' : km_S → Prop} (hQ : ∀ y0, Q y0 → Q' y0 → Q'' y0) : ∀ (n : Nat) (l1 : Int32) (l2 : Int32) (μ : km_S), wX12_saw_19 Q n l1 l2 μ → vX12_saw_19 Q' n l1 l2 μ → wX12_saw_19 Q'' n l1 l2 μ := by
  intro n
  induction n with
  | zero => intro l1 l2 μ h; exact h.elim
  | succ n ih =>
    intro l1 l2 μ h v
    unfold wX12_saw_19 at h
    unfold vX12_saw_19 at v
    unfold wX12_saw_19
    refine ⟨h.1, ?_⟩
    have v := v h.1
    have h := h.2
    refine ⟨?_, ?_⟩
    · have h := h.1
      have v := v.1
      intro e2
      have h := h e2
      have v := v e2
      exact hQ _ h v
    · have h := h.2
      have v := v.2
      intro e3
      have h := h e3
      have v := v e3
      refine ⟨h.1, ?_⟩
      have v := v h.1
      have h := h.2
      intro μ4 e5
      have h := h μ4 e5
      have v := v μ4 e5
      intro μ5 e6
      have h := h μ5 e6
      have v := v μ5 e6
      intro v6 e7
      have h := h v6 e7
      have v := v v6 e7
      exact ih _ _ _ h v
set_option maxRecDepth 100000 in
set_option maxHeartbeats 4000000 in
theorem jaX12_saw_19 {Q Q' : km_S → Prop} (hQ : ∀ y0, Q y0 → Q' y0) : ∀ (n m : Nat) (l1 : Int32) (l2 : Int32) (μ : km_S), wX12_saw_19 Q n l1 l2 μ → vX12_saw_19 Q' m l1 l2 μ := by
  intro n
  induction n with
  | zero => intro m l1 l2 μ h; exact h.elim
  | succ n ih =>
    intro m l1 l2 μ h
    cases m with
    | zero => exact trivial
    | succ m =>
      unfold wX12_saw_19 at h
      unfold vX12_saw_19
      intro e1
      have h := h.2
      refine ⟨?_, ?_⟩
      · have h := h.1
        intro e2
        have h := h e2
        exact hQ _ h
      · have h := h.2
        intro e3
        have h := h e3
        intro e4
        have h := h.2
        intro μ4 e5
        have h := h μ4 e5
        intro μ5 e6
        have h := h μ5 e6
        intro v6 e7
        have h := h v6 e7
        exact ih m _ _ _ h
set_option maxRecDepth 100000 in
set_option maxHeartbeats 4000000 in
theorem jfX12_saw_19 {I : km_S → Prop} (W : gw_ I [6, 43]) {Q : km_S → Prop} (hQ : ∀ y0, I y0 → Q y0) : ∀ (n : Nat) (l1 : Int32) (l2 : Int32) (μ : km_S), I μ → vX12_saw_19 Q n l1 l2 μ := by
  intro n
  induction n with
  | zero => intro l1 l2 μ i; exact trivial
  | succ n ih =>
    intro l1 l2 μ i
    unfold vX12_saw_19
    intro e1
    refine ⟨?_, ?_⟩
    · intro e2
      exact hQ _ i
    · intro e3
      intro e4
      intro μ4 e5
      have iμ4 : I μ4 := by rw [e5]; exact ((W _ i) 43 (by decide)).2.1 _ _
      intro μ5 e6
      have iμ5 : I μ5 := by rw [e6]; exact ((W _ iμ4) 6 (by decide)).1 _
      intro v6 e7
      exact ih _ _ _ iμ5
def vX12_saw (l1 : Int32) (μ : km_S) (Q : km_S → Prop) : Prop := vp_in l1 400 → ∀ μ8, μ8 = km_sa μ 38 l1.toNatClampNeg 3 → vp_in l1 400 → ∀ μ10, μ10 = km_sa μ8 42 l1.toNatClampNeg (km_i μ8 6) → ∀ j, vX12_saw_19 Q j l1 0 μ10
set_option maxRecDepth 100000 in
set_option maxHeartbeats 4000000 in
theorem jcX12_saw {Q Q' Q'' : km_S → Prop} (hQ : ∀ y0, Q y0 → Q' y0 → Q'' y0) : ∀ (l1 : Int32) (μ : km_S), wX12_saw l1 μ Q → vX12_saw l1 μ Q' → wX12_saw l1 μ Q'' := by
  intro l1 μ h v
  unfold wX12_saw at h
  unfold vX12_saw at v
  unfold wX12_saw
  refine ⟨h.1, ?_⟩
  have v := v h.1
  have h := h.2
  intro μ8 e2
  have h := h μ8 e2
  have v := v μ8 e2
  refine ⟨h.1, ?_⟩
  have v := v h.1
  have h := h.2
  intro μ10 e4
  have h := h μ10 e4
  have v := v μ10 e4
  obtain ⟨j, h⟩ := h
  refine ⟨j, ?_⟩
  have v := v j
  exact jcX12_saw_19 hQ _ _ _ _ h v
set_option maxRecDepth 100000 in
set_option maxHeartbeats 4000000 in
theorem jaX12_saw {Q Q' : km_S → Prop} (hQ : ∀ y0, Q y0 → Q' y0) : ∀ (l1 : Int32) (μ : km_S), wX12_saw l1 μ Q → vX12_saw l1 μ Q' := by
  intro l1 μ h
  unfold wX12_saw at h
  unfold vX12_saw
  intro e1
  have h := h.2
  intro μ8 e2
  have h := h μ8 e2
  intro e3
  have h := h.2
  intro μ10 e4
  have h := h μ10 e4
  obtain ⟨j, h⟩ := h
  intro j9
  exact jaX12_saw_19 hQ _ j9 _ _ _ h
set_option maxRecDepth 100000 in
set_option maxHeartbeats 4000000 in
theorem jfX12_saw {I : km_S → Prop} (W : gw_ I [6, 38, 42, 43]) {Q : km_S → Prop} (hQ : ∀ y0, I y0 → Q y0) : ∀ (l1 : Int32) (μ : km_S), I μ → vX12_saw l1 μ Q := by
  intro l1 μ i
  unfold vX12_saw
  intro e1
  intro μ8 e2
  have iμ8 : I μ8 := by rw [e2]; exact ((W _ i) 38 (by decide)).2.1 _ _
  intro e3
  intro μ10 e4
  have iμ10 : I μ10 := by rw [e4]; exact ((W _ iμ8) 42 (by decide)).2.1 _ _
  intro j
  exact jfX12_saw_19 (I := I) (gw_sub W (by decide)) hQ _ _ _ _ iμ10
def vX12_mills_202 (k2 : Int32 → km_S → Prop) (Q : km_S → Prop) (l1 : Int32) (μ : km_S) : Prop := ∀ v1 : Int32, v1 = l1 + 1 → k2 v1 μ
set_option maxRecDepth 100000 in
set_option maxHeartbeats 4000000 in
theorem jcX12_mills_202 {k2 k2' k2'' : Int32 → km_S → Prop} (hk2 : ∀ y0 y1, k2 y0 y1 → k2' y0 y1 → k2'' y0 y1) {Q Q' Q'' : km_S → Prop} (hQ : ∀ y0, Q y0 → Q' y0 → Q'' y0) : ∀ (l1 : Int32) (μ : km_S), wX12_mills_202 k2 Q l1 μ → vX12_mills_202 k2' Q' l1 μ → wX12_mills_202 k2'' Q'' l1 μ := by
  intro l1 μ h v
  unfold wX12_mills_202 at h
  unfold vX12_mills_202 at v
  unfold wX12_mills_202
  intro v1 e1
  have h := h v1 e1
  have v := v v1 e1
  exact hk2 _ _ h v
set_option maxRecDepth 100000 in
set_option maxHeartbeats 4000000 in
theorem jaX12_mills_202 {k2 k2' : Int32 → km_S → Prop} (hk2 : ∀ y0 y1, k2 y0 y1 → k2' y0 y1) {Q Q' : km_S → Prop} (hQ : ∀ y0, Q y0 → Q' y0) : ∀ (l1 : Int32) (μ : km_S), wX12_mills_202 k2 Q l1 μ → vX12_mills_202 k2' Q' l1 μ := by
  intro l1 μ h
  unfold wX12_mills_202 at h
  unfold vX12_mills_202
  intro v1 e1
  have h := h v1 e1
  exact hk2 _ _ h
set_option maxRecDepth 100000 in
set_option maxHeartbeats 4000000 in
theorem jfX12_mills_202 {I : km_S → Prop} (W : gw_ I []) {k2 : Int32 → km_S → Prop} (hk2 : ∀ y0 y1, I y1 → k2 y0 y1) {Q : km_S → Prop} (hQ : ∀ y0, I y0 → Q y0) : ∀ (l1 : Int32) (μ : km_S), I μ → vX12_mills_202 k2 Q l1 μ := by
  intro l1 μ i
  unfold vX12_mills_202
  intro v1 e1
  exact hk2 _ _ i
def vX12_mills_196 (k14 : Int32 → Int32 → Int32 → km_S → Prop) (Q : km_S → Prop) (l1 : Int32) (l2 : Int32) (l3 : Int32) (μ : km_S) : Prop := ∀ v2 : Int32, v2 = l3 + 1 → k14 l1 l2 v2 μ
set_option maxRecDepth 100000 in
set_option maxHeartbeats 4000000 in
theorem jcX12_mills_196 {k14 k14' k14'' : Int32 → Int32 → Int32 → km_S → Prop} (hk14 : ∀ y0 y1 y2 y3, k14 y0 y1 y2 y3 → k14' y0 y1 y2 y3 → k14'' y0 y1 y2 y3) {Q Q' Q'' : km_S → Prop} (hQ : ∀ y0, Q y0 → Q' y0 → Q'' y0) : ∀ (l1 : Int32) (l2 : Int32) (l3 : Int32) (μ : km_S), wX12_mills_196 k14 Q l1 l2 l3 μ → vX12_mills_196 k14' Q' l1 l2 l3 μ → wX12_mills_196 k14'' Q'' l1 l2 l3 μ := by
  intro l1 l2 l3 μ h v
  unfold wX12_mills_196 at h
  unfold vX12_mills_196 at v
  unfold wX12_mills_196
  intro v2 e1
  have h := h v2 e1
  have v := v v2 e1
  exact hk14 _ _ _ _ h v
set_option maxRecDepth 100000 in
set_option maxHeartbeats 4000000 in
theorem jaX12_mills_196 {k14 k14' : Int32 → Int32 → Int32 → km_S → Prop} (hk14 : ∀ y0 y1 y2 y3, k14 y0 y1 y2 y3 → k14' y0 y1 y2 y3) {Q Q' : km_S → Prop} (hQ : ∀ y0, Q y0 → Q' y0) : ∀ (l1 : Int32) (l2 : Int32) (l3 : Int32) (μ : km_S), wX12_mills_196 k14 Q l1 l2 l3 μ → vX12_mills_196 k14' Q' l1 l2 l3 μ := by
  intro l1 l2 l3 μ h
  unfold wX12_mills_196 at h
  unfold vX12_mills_196
  intro v2 e1
  have h := h v2 e1
  exact hk14 _ _ _ _ h
set_option maxRecDepth 100000 in
set_option maxHeartbeats 4000000 in
theorem jfX12_mills_196 {I : km_S → Prop} (W : gw_ I []) {k14 : Int32 → Int32 → Int32 → km_S → Prop} (hk14 : ∀ y0 y1 y2 y3, I y3 → k14 y0 y1 y2 y3) {Q : km_S → Prop} (hQ : ∀ y0, I y0 → Q y0) : ∀ (l1 : Int32) (l2 : Int32) (l3 : Int32) (μ : km_S), I μ → vX12_mills_196 k14 Q l1 l2 l3 μ := by
  intro l1 l2 l3 μ i
  unfold vX12_mills_196
  intro v2 e1
  exact hk14 _ _ _ _ i
def vX12_mills_109 (k38 : Int32 → Int32 → Int32 → Int32 → km_S → Prop) (Q : km_S → Prop) (l1 : Int32) (l2 : Int32) (l3 : Int32) (l4 : Int32) (μ : km_S) : Prop := ∀ v3 : Int32, v3 = l4 + 1 → k38 l1 l2 l3 v3 μ
set_option maxRecDepth 100000 in
set_option maxHeartbeats 4000000 in
theorem jcX12_mills_109 {k38 k38' k38'' : Int32 → Int32 → Int32 → Int32 → km_S → Prop} (hk38 : ∀ y0 y1 y2 y3 y4, k38 y0 y1 y2 y3 y4 → k38' y0 y1 y2 y3 y4 → k38'' y0 y1 y2 y3 y4) {Q Q' Q'' : km_S → Prop} (hQ : ∀ y0, Q y0 → Q' y0 → Q'' y0) : ∀ (l1 : Int32) (l2 : Int32) (l3 : Int32) (l4 : Int32) (μ : km_S), wX12_mills_109 k38 Q l1 l2 l3 l4 μ → vX12_mills_109 k38' Q' l1 l2 l3 l4 μ → wX12_mills_109 k38'' Q'' l1 l2 l3 l4 μ := by
  intro l1 l2 l3 l4 μ h v
  unfold wX12_mills_109 at h
  unfold vX12_mills_109 at v
  unfold wX12_mills_109
  intro v3 e1
  have h := h v3 e1
  have v := v v3 e1
  exact hk38 _ _ _ _ _ h v
set_option maxRecDepth 100000 in
set_option maxHeartbeats 4000000 in
theorem jaX12_mills_109 {k38 k38' : Int32 → Int32 → Int32 → Int32 → km_S → Prop} (hk38 : ∀ y0 y1 y2 y3 y4, k38 y0 y1 y2 y3 y4 → k38' y0 y1 y2 y3 y4) {Q Q' : km_S → Prop} (hQ : ∀ y0, Q y0 → Q' y0) : ∀ (l1 : Int32) (l2 : Int32) (l3 : Int32) (l4 : Int32) (μ : km_S), wX12_mills_109 k38 Q l1 l2 l3 l4 μ → vX12_mills_109 k38' Q' l1 l2 l3 l4 μ := by
  intro l1 l2 l3 l4 μ h
  unfold wX12_mills_109 at h
  unfold vX12_mills_109
  intro v3 e1
  have h := h v3 e1
  exact hk38 _ _ _ _ _ h
set_option maxRecDepth 100000 in
set_option maxHeartbeats 4000000 in
theorem jfX12_mills_109 {I : km_S → Prop} (W : gw_ I []) {k38 : Int32 → Int32 → Int32 → Int32 → km_S → Prop} (hk38 : ∀ y0 y1 y2 y3 y4, I y4 → k38 y0 y1 y2 y3 y4) {Q : km_S → Prop} (hQ : ∀ y0, I y0 → Q y0) : ∀ (l1 : Int32) (l2 : Int32) (l3 : Int32) (l4 : Int32) (μ : km_S), I μ → vX12_mills_109 k38 Q l1 l2 l3 l4 μ := by
  intro l1 l2 l3 l4 μ i
  unfold vX12_mills_109
  intro v3 e1
  exact hk38 _ _ _ _ _ i
def vX12_mills_164 (k38 : Int32 → Int32 → Int32 → Int32 → km_S → Prop) (Q : km_S → Prop) (l1 : Int32) (l2 : Int32) (l3 : Int32) (l4 : Int32) (l5 : Int32) (μ : km_S) : Prop := vp_in l1 10 → vp_in l1 10 → ∀ μ6, μ6 = km_sa μ 29 l1.toNatClampNeg ((km_a μ 29 l1.toNatClampNeg) - 1) → vX12_saw l5 μ6 (fun μ7 => vp_in l3 60 → vp_in l3 60 → ∀ μ10, μ10 = km_sa μ7 50 l3.toNatClampNeg ((km_a μ7 50 l3.toNatClampNeg) - 1) → ∀ v11 : Int32, v11 = l2 + 1 → k38 l1 v11 l3 l4 μ10)
set_option maxRecDepth 100000 in
set_option maxHeartbeats 4000000 in
theorem jcX12_mills_164 {k38 k38' k38'' : Int32 → Int32 → Int32 → Int32 → km_S → Prop} (hk38 : ∀ y0 y1 y2 y3 y4, k38 y0 y1 y2 y3 y4 → k38' y0 y1 y2 y3 y4 → k38'' y0 y1 y2 y3 y4) {Q Q' Q'' : km_S → Prop} (hQ : ∀ y0, Q y0 → Q' y0 → Q'' y0) : ∀ (l1 : Int32) (l2 : Int32) (l3 : Int32) (l4 : Int32) (l5 : Int32) (μ : km_S), wX12_mills_164 k38 Q l1 l2 l3 l4 l5 μ → vX12_mills_164 k38' Q' l1 l2 l3 l4 l5 μ → wX12_mills_164 k38'' Q'' l1 l2 l3 l4 l5 μ := by
  intro l1 l2 l3 l4 l5 μ h v
  unfold wX12_mills_164 at h
  unfold vX12_mills_164 at v
  unfold wX12_mills_164
  refine ⟨h.1, ?_⟩
  have v := v h.1
  have h := h.2
  refine ⟨h.1, ?_⟩
  have v := v h.1
  have h := h.2
  intro μ6 e3
  have h := h μ6 e3
  have v := v μ6 e3
  refine jcX12_saw ?_ _ _ h v
  intro μ7 h v
  refine ⟨h.1, ?_⟩
  have v := v h.1
  have h := h.2
  refine ⟨h.1, ?_⟩
  have v := v h.1
  have h := h.2
  intro μ10 e6
  have h := h μ10 e6
  have v := v μ10 e6
  intro v11 e7
  have h := h v11 e7
  have v := v v11 e7
  exact hk38 _ _ _ _ _ h v
set_option maxRecDepth 100000 in
set_option maxHeartbeats 4000000 in
theorem jaX12_mills_164 {k38 k38' : Int32 → Int32 → Int32 → Int32 → km_S → Prop} (hk38 : ∀ y0 y1 y2 y3 y4, k38 y0 y1 y2 y3 y4 → k38' y0 y1 y2 y3 y4) {Q Q' : km_S → Prop} (hQ : ∀ y0, Q y0 → Q' y0) : ∀ (l1 : Int32) (l2 : Int32) (l3 : Int32) (l4 : Int32) (l5 : Int32) (μ : km_S), wX12_mills_164 k38 Q l1 l2 l3 l4 l5 μ → vX12_mills_164 k38' Q' l1 l2 l3 l4 l5 μ := by
  intro l1 l2 l3 l4 l5 μ h
  unfold wX12_mills_164 at h
  unfold vX12_mills_164
  intro e1
  have h := h.2
  intro e2
  have h := h.2
  intro μ6 e3
  have h := h μ6 e3
  refine jaX12_saw ?_ _ _ h
  intro μ7 h
  intro e4
  have h := h.2
  intro e5
  have h := h.2
  intro μ10 e6
  have h := h μ10 e6
  intro v11 e7
  have h := h v11 e7
  exact hk38 _ _ _ _ _ h
set_option maxRecDepth 100000 in
set_option maxHeartbeats 4000000 in
theorem jfX12_mills_164 {I : km_S → Prop} (W : gw_ I [6, 29, 38, 42, 43, 50]) {k38 : Int32 → Int32 → Int32 → Int32 → km_S → Prop} (hk38 : ∀ y0 y1 y2 y3 y4, I y4 → k38 y0 y1 y2 y3 y4) {Q : km_S → Prop} (hQ : ∀ y0, I y0 → Q y0) : ∀ (l1 : Int32) (l2 : Int32) (l3 : Int32) (l4 : Int32) (l5 : Int32) (μ : km_S), I μ → vX12_mills_164 k38 Q l1 l2 l3 l4 l5 μ := by
  intro l1 l2 l3 l4 l5 μ i
  unfold vX12_mills_164
  intro e1
  intro e2
  intro μ6 e3
  have iμ6 : I μ6 := by rw [e3]; exact ((W _ i) 29 (by decide)).2.1 _ _
  refine jfX12_saw (I := I) (gw_sub W (by decide)) ?_ _ _ iμ6
  intro μ7 iμ7
  intro e4
  intro e5
  intro μ10 e6
  have iμ10 : I μ10 := by rw [e6]; exact ((W _ iμ7) 50 (by decide)).2.1 _ _
  intro v11 e7
  exact hk38 _ _ _ _ _ iμ10
end

def vX12_fault (μ : km_S) (Q : Int32 → km_S → Prop) : Prop := ∀ μ1, μ1 = km_si μ 1 0 → Q (km_i μ1 10) μ1
set_option maxRecDepth 100000 in
set_option maxHeartbeats 4000000 in
theorem jcX12_fault {Q Q' Q'' : Int32 → km_S → Prop} (hQ : ∀ y0 y1, Q y0 y1 → Q' y0 y1 → Q'' y0 y1) : ∀ (μ : km_S), wX12_fault μ Q → vX12_fault μ Q' → wX12_fault μ Q'' := by
  intro μ h v
  unfold wX12_fault at h
  unfold vX12_fault at v
  unfold wX12_fault
  intro μ1 e1
  have h := h μ1 e1
  have v := v μ1 e1
  exact hQ _ _ h v
set_option maxRecDepth 100000 in
set_option maxHeartbeats 4000000 in
theorem jaX12_fault {Q Q' : Int32 → km_S → Prop} (hQ : ∀ y0 y1, Q y0 y1 → Q' y0 y1) : ∀ (μ : km_S), wX12_fault μ Q → vX12_fault μ Q' := by
  intro μ h
  unfold wX12_fault at h
  unfold vX12_fault
  intro μ1 e1
  have h := h μ1 e1
  exact hQ _ _ h
set_option maxRecDepth 100000 in
set_option maxHeartbeats 4000000 in
theorem jfX12_fault {I : km_S → Prop} (W : gw_ I [1]) {Q : Int32 → km_S → Prop} (hQ : ∀ y0 y1, I y1 → Q y0 y1) : ∀ (μ : km_S), I μ → vX12_fault μ Q := by
  intro μ i
  unfold vX12_fault
  intro μ1 e1
  have iμ1 : I μ1 := by rw [e1]; exact ((W _ i) 1 (by decide)).1 _
  exact hQ _ _ iμ1
def vX12_isOpen (l1 : Int32) (l2 : Int32) (μ : km_S) (Q : Int32 → km_S → Prop) : Prop := vX12_at0 l1 l2 μ (fun r2 μ1 => vp_in r2 120 → vp_in l1 10 → (((km_a μ1 15 l1.toNatClampNeg) ≤ (km_a μ1 31 r2.toNatClampNeg) → Q 0 μ1) ∧ (¬ ((km_a μ1 15 l1.toNatClampNeg) ≤ (km_a μ1 31 r2.toNatClampNeg)) → vX12_at0 l1 l2 μ1 (fun r7 μ6 => vp_in r7 120 → ((¬ (km_a μ6 33 r7.toNatClampNeg) = 0 → Q 0 μ6) ∧ ((km_a μ6 33 r7.toNatClampNeg) = 0 → Q 1 μ6))))))
set_option maxRecDepth 100000 in
set_option maxHeartbeats 4000000 in
theorem jcX12_isOpen {Q Q' Q'' : Int32 → km_S → Prop} (hQ : ∀ y0 y1, Q y0 y1 → Q' y0 y1 → Q'' y0 y1) : ∀ (l1 : Int32) (l2 : Int32) (μ : km_S), wX12_isOpen l1 l2 μ Q → vX12_isOpen l1 l2 μ Q' → wX12_isOpen l1 l2 μ Q'' := by
  intro l1 l2 μ h v
  unfold wX12_isOpen at h
  unfold vX12_isOpen at v
  unfold wX12_isOpen
  refine jcX12_at0 ?_ _ _ _ h v
  intro r2 μ1 h v
  refine ⟨h.1, ?_⟩
  have v := v h.1
  have h := h.2
  refine ⟨h.1, ?_⟩
  have v := v h.1
  have h := h.2
  refine ⟨?_, ?_⟩
  · have h := h.1
    have v := v.1
    intro e3
    have h := h e3
    have v := v e3
    exact hQ _ _ h v
  · have h := h.2
    have v := v.2
    intro e4
    have h := h e4
    have v := v e4
    refine jcX12_at0 ?_ _ _ _ h v
    intro r7 μ6 h v
    refine ⟨h.1, ?_⟩
    have v := v h.1
    have h := h.2
    refine ⟨?_, ?_⟩
    · have h := h.1
      have v := v.1
      intro e6
      have h := h e6
      have v := v e6
      exact hQ _ _ h v
    · have h := h.2
      have v := v.2
      intro e7
      have h := h e7
      have v := v e7
      exact hQ _ _ h v
set_option maxRecDepth 100000 in
set_option maxHeartbeats 4000000 in
theorem jaX12_isOpen {Q Q' : Int32 → km_S → Prop} (hQ : ∀ y0 y1, Q y0 y1 → Q' y0 y1) : ∀ (l1 : Int32) (l2 : Int32) (μ : km_S), wX12_isOpen l1 l2 μ Q → vX12_isOpen l1 l2 μ Q' := by
  intro l1 l2 μ h
  unfold wX12_isOpen at h
  unfold vX12_isOpen
  refine jaX12_at0 ?_ _ _ _ h
  intro r2 μ1 h
  intro e1
  have h := h.2
  intro e2
  have h := h.2
  refine ⟨?_, ?_⟩
  · have h := h.1
    intro e3
    have h := h e3
    exact hQ _ _ h
  · have h := h.2
    intro e4
    have h := h e4
    refine jaX12_at0 ?_ _ _ _ h
    intro r7 μ6 h
    intro e5
    have h := h.2
    refine ⟨?_, ?_⟩
    · have h := h.1
      intro e6
      have h := h e6
      exact hQ _ _ h
    · have h := h.2
      intro e7
      have h := h e7
      exact hQ _ _ h
set_option maxRecDepth 100000 in
set_option maxHeartbeats 4000000 in
theorem jfX12_isOpen {I : km_S → Prop} (W : gw_ I []) {Q : Int32 → km_S → Prop} (hQ : ∀ y0 y1, I y1 → Q y0 y1) : ∀ (l1 : Int32) (l2 : Int32) (μ : km_S), I μ → vX12_isOpen l1 l2 μ Q := by
  intro l1 l2 μ i
  unfold vX12_isOpen
  refine jfX12_at0 (I := I) (gw_sub W (by decide)) ?_ _ _ _ i
  intro r2 μ1 iμ1
  intro e1
  intro e2
  refine ⟨?_, ?_⟩
  · intro e3
    exact hQ _ _ iμ1
  · intro e4
    refine jfX12_at0 (I := I) (gw_sub W (by decide)) ?_ _ _ _ iμ1
    intro r7 μ6 iμ6
    intro e5
    refine ⟨?_, ?_⟩
    · intro e6
      exact hQ _ _ iμ6
    · intro e7
      exact hQ _ _ iμ6

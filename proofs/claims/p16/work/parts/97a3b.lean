def vX12_value (l1 : Int32) (l2 : Int32) (l3 : Int32) (μ : km_S) (Q : Int32 → km_S → Prop) : Prop := ∀ v1, v1 = l1 → ((v1 = 0 → vp_in l2 400 → Q (km_a μ 35 l2.toNatClampNeg) μ) ∧ ((v1 = 1 → vp_in l2 400 → Q (km_a μ 36 l2.toNatClampNeg) μ) ∧ ((v1 = 2 → vp_in l2 400 → Q (km_a μ 37 l2.toNatClampNeg) μ) ∧ ((v1 = 3 → Q ((km_i μ 2) - (km_i μ 2) / 24 * 24) μ) ∧ ((v1 = 4 → Q ((km_i μ 2) / 24) μ) ∧ ((v1 = 5 → Q l3 μ) ∧ (¬ v1 = 0 → ¬ v1 = 1 → ¬ v1 = 2 → ¬ v1 = 3 → ¬ v1 = 4 → ¬ v1 = 5 → vp_in l2 400 → Q (km_a μ 41 l2.toNatClampNeg) μ)))))))
set_option maxRecDepth 100000 in
set_option maxHeartbeats 4000000 in
theorem jcX12_value {Q Q' Q'' : Int32 → km_S → Prop} (hQ : ∀ y0 y1, Q y0 y1 → Q' y0 y1 → Q'' y0 y1) : ∀ (l1 : Int32) (l2 : Int32) (l3 : Int32) (μ : km_S), wX12_value l1 l2 l3 μ Q → vX12_value l1 l2 l3 μ Q' → wX12_value l1 l2 l3 μ Q'' := by
  intro l1 l2 l3 μ h v
  unfold wX12_value at h
  unfold vX12_value at v
  unfold wX12_value
  intro v1 e1
  have h := h v1 e1
  have v := v v1 e1
  refine ⟨?_, ?_⟩
  · have h := h.1
    have v := v.1
    intro e2
    have h := h e2
    have v := v e2
    refine ⟨h.1, ?_⟩
    have v := v h.1
    have h := h.2
    exact hQ _ _ h v
  · have h := h.2
    have v := v.2
    refine ⟨?_, ?_⟩
    · have h := h.1
      have v := v.1
      intro e4
      have h := h e4
      have v := v e4
      refine ⟨h.1, ?_⟩
      have v := v h.1
      have h := h.2
      exact hQ _ _ h v
    · have h := h.2
      have v := v.2
      refine ⟨?_, ?_⟩
      · have h := h.1
        have v := v.1
        intro e6
        have h := h e6
        have v := v e6
        refine ⟨h.1, ?_⟩
        have v := v h.1
        have h := h.2
        exact hQ _ _ h v
      · have h := h.2
        have v := v.2
        refine ⟨?_, ?_⟩
        · have h := h.1
          have v := v.1
          intro e8
          have h := h e8
          have v := v e8
          exact hQ _ _ h v
        · have h := h.2
          have v := v.2
          refine ⟨?_, ?_⟩
          · have h := h.1
            have v := v.1
            intro e9
            have h := h e9
            have v := v e9
            exact hQ _ _ h v
          · have h := h.2
            have v := v.2
            refine ⟨?_, ?_⟩
            · have h := h.1
              have v := v.1
              intro e10
              have h := h e10
              have v := v e10
              exact hQ _ _ h v
            · have h := h.2
              have v := v.2
              intro e11 e12 e13 e14 e15 e16
              have h := h e11 e12 e13 e14 e15 e16
              have v := v e11 e12 e13 e14 e15 e16
              refine ⟨h.1, ?_⟩
              have v := v h.1
              have h := h.2
              exact hQ _ _ h v
set_option maxRecDepth 100000 in
set_option maxHeartbeats 4000000 in
theorem jaX12_value {Q Q' : Int32 → km_S → Prop} (hQ : ∀ y0 y1, Q y0 y1 → Q' y0 y1) : ∀ (l1 : Int32) (l2 : Int32) (l3 : Int32) (μ : km_S), wX12_value l1 l2 l3 μ Q → vX12_value l1 l2 l3 μ Q' := by
  intro l1 l2 l3 μ h
  unfold wX12_value at h
  unfold vX12_value
  intro v1 e1
  have h := h v1 e1
  refine ⟨?_, ?_⟩
  · have h := h.1
    intro e2
    have h := h e2
    intro e3
    have h := h.2
    exact hQ _ _ h
  · have h := h.2
    refine ⟨?_, ?_⟩
    · have h := h.1
      intro e4
      have h := h e4
      intro e5
      have h := h.2
      exact hQ _ _ h
    · have h := h.2
      refine ⟨?_, ?_⟩
      · have h := h.1
        intro e6
        have h := h e6
        intro e7
        have h := h.2
        exact hQ _ _ h
      · have h := h.2
        refine ⟨?_, ?_⟩
        · have h := h.1
          intro e8
          have h := h e8
          exact hQ _ _ h
        · have h := h.2
          refine ⟨?_, ?_⟩
          · have h := h.1
            intro e9
            have h := h e9
            exact hQ _ _ h
          · have h := h.2
            refine ⟨?_, ?_⟩
            · have h := h.1
              intro e10
              have h := h e10
              exact hQ _ _ h
            · have h := h.2
              intro e11 e12 e13 e14 e15 e16
              have h := h e11 e12 e13 e14 e15 e16
              intro e17
              have h := h.2
              exact hQ _ _ h
set_option maxRecDepth 100000 in
set_option maxHeartbeats 4000000 in
theorem jfX12_value {I : km_S → Prop} (W : gw_ I []) {Q : Int32 → km_S → Prop} (hQ : ∀ y0 y1, I y1 → Q y0 y1) : ∀ (l1 : Int32) (l2 : Int32) (l3 : Int32) (μ : km_S), I μ → vX12_value l1 l2 l3 μ Q := by
  intro l1 l2 l3 μ i
  unfold vX12_value
  intro v1 e1
  refine ⟨?_, ?_⟩
  · intro e2
    intro e3
    exact hQ _ _ i
  · refine ⟨?_, ?_⟩
    · intro e4
      intro e5
      exact hQ _ _ i
    · refine ⟨?_, ?_⟩
      · intro e6
        intro e7
        exact hQ _ _ i
      · refine ⟨?_, ?_⟩
        · intro e8
          exact hQ _ _ i
        · refine ⟨?_, ?_⟩
          · intro e9
            exact hQ _ _ i
          · refine ⟨?_, ?_⟩
            · intro e10
              exact hQ _ _ i
            · intro e11 e12 e13 e14 e15 e16
              intro e17
              exact hQ _ _ i
def vX12_two (l0 : Int32) (l1 : Int32) (l2 : Int32) (μ : km_S) (Q : Int32 → km_S → Prop) : Prop := ∀ v1, v1 = l0 → ((v1 = 1 → Q (l1 + l2) μ) ∧ ((v1 = 2 → Q (l1 - l2) μ) ∧ ((v1 = 3 → Q (l1 * l2) μ) ∧ ((v1 = 4 → ((¬ l2 = 0 → ((¬ l2 = (-1) → ¬ l2 = 0 → Q (l1 / l2) μ) ∧ (l2 = (-1) → Q (-l1) μ))) ∧ (l2 = 0 → Q 0 μ))) ∧ ((v1 = 5 → ((l2 ≤ l1 → Q 0 μ) ∧ (¬ (l2 ≤ l1) → Q 1 μ))) ∧ ((v1 = 6 → ((¬ l1 = l2 → Q 0 μ) ∧ (l1 = l2 → Q 1 μ))) ∧ ((v1 = 7 → ((l1 = 0 → Q 0 μ) ∧ (¬ (l1 = 0) → ((l2 = 0 → Q 0 μ) ∧ (¬ (l2 = 0) → Q 1 μ))))) ∧ (¬ v1 = 1 → ¬ v1 = 2 → ¬ v1 = 3 → ¬ v1 = 4 → ¬ v1 = 5 → ¬ v1 = 6 → ¬ v1 = 7 → ((¬ l1 = 0 → Q 1 μ) ∧ (l1 = 0 → ((l2 = 0 → Q 0 μ) ∧ (¬ (l2 = 0) → Q 1 μ))))))))))))
set_option maxRecDepth 100000 in
set_option maxHeartbeats 4000000 in
theorem jcX12_two {Q Q' Q'' : Int32 → km_S → Prop} (hQ : ∀ y0 y1, Q y0 y1 → Q' y0 y1 → Q'' y0 y1) : ∀ (l0 : Int32) (l1 : Int32) (l2 : Int32) (μ : km_S), wX12_two l0 l1 l2 μ Q → vX12_two l0 l1 l2 μ Q' → wX12_two l0 l1 l2 μ Q'' := by
  intro l0 l1 l2 μ h v
  unfold wX12_two at h
  unfold vX12_two at v
  unfold wX12_two
  intro v1 e1
  have h := h v1 e1
  have v := v v1 e1
  refine ⟨?_, ?_⟩
  · have h := h.1
    have v := v.1
    intro e2
    have h := h e2
    have v := v e2
    exact hQ _ _ h v
  · have h := h.2
    have v := v.2
    refine ⟨?_, ?_⟩
    · have h := h.1
      have v := v.1
      intro e3
      have h := h e3
      have v := v e3
      exact hQ _ _ h v
    · have h := h.2
      have v := v.2
      refine ⟨?_, ?_⟩
      · have h := h.1
        have v := v.1
        intro e4
        have h := h e4
        have v := v e4
        exact hQ _ _ h v
      · have h := h.2
        have v := v.2
        refine ⟨?_, ?_⟩
        · have h := h.1
          have v := v.1
          intro e5
          have h := h e5
          have v := v e5
          refine ⟨?_, ?_⟩
          · have h := h.1
            have v := v.1
            intro e6
            have h := h e6
            have v := v e6
            refine ⟨?_, ?_⟩
            · have h := h.1
              have v := v.1
              intro e7
              have h := h e7
              have v := v e7
              refine ⟨h.1, ?_⟩
              have v := v h.1
              have h := h.2
              exact hQ _ _ h v
            · have h := h.2
              have v := v.2
              intro e9
              have h := h e9
              have v := v e9
              exact hQ _ _ h v
          · have h := h.2
            have v := v.2
            intro e10
            have h := h e10
            have v := v e10
            exact hQ _ _ h v
        · have h := h.2
          have v := v.2
          refine ⟨?_, ?_⟩
          · have h := h.1
            have v := v.1
            intro e11
            have h := h e11
            have v := v e11
            refine ⟨?_, ?_⟩
            · have h := h.1
              have v := v.1
              intro e12
              have h := h e12
              have v := v e12
              exact hQ _ _ h v
            · have h := h.2
              have v := v.2
              intro e13
              have h := h e13
              have v := v e13
              exact hQ _ _ h v
          · have h := h.2
            have v := v.2
            refine ⟨?_, ?_⟩
            · have h := h.1
              have v := v.1
              intro e14
              have h := h e14
              have v := v e14
              refine ⟨?_, ?_⟩
              · have h := h.1
                have v := v.1
                intro e15
                have h := h e15
                have v := v e15
                exact hQ _ _ h v
              · have h := h.2
                have v := v.2
                intro e16
                have h := h e16
                have v := v e16
                exact hQ _ _ h v
            · have h := h.2
              have v := v.2
              refine ⟨?_, ?_⟩
              · have h := h.1
                have v := v.1
                intro e17
                have h := h e17
                have v := v e17
                refine ⟨?_, ?_⟩
                · have h := h.1
                  have v := v.1
                  intro e18
                  have h := h e18
                  have v := v e18
                  exact hQ _ _ h v
                · have h := h.2
                  have v := v.2
                  intro e19
                  have h := h e19
                  have v := v e19
                  refine ⟨?_, ?_⟩
                  · have h := h.1
                    have v := v.1
                    intro e20
                    have h := h e20
                    have v := v e20
                    exact hQ _ _ h v
                  · have h := h.2
                    have v := v.2
                    intro e21
                    have h := h e21
                    have v := v e21
                    exact hQ _ _ h v
              · have h := h.2
                have v := v.2
                intro e22 e23 e24 e25 e26 e27 e28
                have h := h e22 e23 e24 e25 e26 e27 e28
                have v := v e22 e23 e24 e25 e26 e27 e28
                refine ⟨?_, ?_⟩
                · have h := h.1
                  have v := v.1
                  intro e29
                  have h := h e29
                  have v := v e29
                  exact hQ _ _ h v
                · have h := h.2
                  have v := v.2
                  intro e30
                  have h := h e30
                  have v := v e30
                  refine ⟨?_, ?_⟩
                  · have h := h.1
                    have v := v.1
                    intro e31
                    have h := h e31
                    have v := v e31
                    exact hQ _ _ h v
                  · have h := h.2
                    have v := v.2
                    intro e32
                    have h := h e32
                    have v := v e32
                    exact hQ _ _ h v
set_option maxRecDepth 100000 in
set_option maxHeartbeats 4000000 in
theorem jaX12_two {Q Q' : Int32 → km_S → Prop} (hQ : ∀ y0 y1, Q y0 y1 → Q' y0 y1) : ∀ (l0 : Int32) (l1 : Int32) (l2 : Int32) (μ : km_S), wX12_two l0 l1 l2 μ Q → vX12_two l0 l1 l2 μ Q' := by
  intro l0 l1 l2 μ h
  unfold wX12_two at h
  unfold vX12_two
  intro v1 e1
  have h := h v1 e1
  refine ⟨?_, ?_⟩
  · have h := h.1
    intro e2
    have h := h e2
    exact hQ _ _ h
  · have h := h.2
    refine ⟨?_, ?_⟩
    · have h := h.1
      intro e3
      have h := h e3
      exact hQ _ _ h
    · have h := h.2
      refine ⟨?_, ?_⟩
      · have h := h.1
        intro e4
        have h := h e4
        exact hQ _ _ h
      · have h := h.2
        refine ⟨?_, ?_⟩
        · have h := h.1
          intro e5
          have h := h e5
          refine ⟨?_, ?_⟩
          · have h := h.1
            intro e6
            have h := h e6
            refine ⟨?_, ?_⟩
            · have h := h.1
              intro e7
              have h := h e7
              intro e8
              have h := h.2
              exact hQ _ _ h
            · have h := h.2
              intro e9
              have h := h e9
              exact hQ _ _ h
          · have h := h.2
            intro e10
            have h := h e10
            exact hQ _ _ h
        · have h := h.2
          refine ⟨?_, ?_⟩
          · have h := h.1
            intro e11
            have h := h e11
            refine ⟨?_, ?_⟩
            · have h := h.1
              intro e12
              have h := h e12
              exact hQ _ _ h
            · have h := h.2
              intro e13
              have h := h e13
              exact hQ _ _ h
          · have h := h.2
            refine ⟨?_, ?_⟩
            · have h := h.1
              intro e14
              have h := h e14
              refine ⟨?_, ?_⟩
              · have h := h.1
                intro e15
                have h := h e15
                exact hQ _ _ h
              · have h := h.2
                intro e16
                have h := h e16
                exact hQ _ _ h
            · have h := h.2
              refine ⟨?_, ?_⟩
              · have h := h.1
                intro e17
                have h := h e17
                refine ⟨?_, ?_⟩
                · have h := h.1
                  intro e18
                  have h := h e18
                  exact hQ _ _ h
                · have h := h.2
                  intro e19
                  have h := h e19
                  refine ⟨?_, ?_⟩
                  · have h := h.1
                    intro e20
                    have h := h e20
                    exact hQ _ _ h
                  · have h := h.2
                    intro e21
                    have h := h e21
                    exact hQ _ _ h
              · have h := h.2
                intro e22 e23 e24 e25 e26 e27 e28
                have h := h e22 e23 e24 e25 e26 e27 e28
                refine ⟨?_, ?_⟩
                · have h := h.1
                  intro e29
                  have h := h e29
                  exact hQ _ _ h
                · have h := h.2
                  intro e30
                  have h := h e30
                  refine ⟨?_, ?_⟩
                  · have h := h.1
                    intro e31
                    have h := h e31
                    exact hQ _ _ h
                  · have h := h.2
                    intro e32
                    have h := h e32
                    exact hQ _ _ h
set_option maxRecDepth 100000 in
set_option maxHeartbeats 4000000 in
theorem jfX12_two {I : km_S → Prop} (W : gw_ I []) {Q : Int32 → km_S → Prop} (hQ : ∀ y0 y1, I y1 → Q y0 y1) : ∀ (l0 : Int32) (l1 : Int32) (l2 : Int32) (μ : km_S), I μ → vX12_two l0 l1 l2 μ Q := by
  intro l0 l1 l2 μ i
  unfold vX12_two
  intro v1 e1
  refine ⟨?_, ?_⟩
  · intro e2
    exact hQ _ _ i
  · refine ⟨?_, ?_⟩
    · intro e3
      exact hQ _ _ i
    · refine ⟨?_, ?_⟩
      · intro e4
        exact hQ _ _ i
      · refine ⟨?_, ?_⟩
        · intro e5
          refine ⟨?_, ?_⟩
          · intro e6
            refine ⟨?_, ?_⟩
            · intro e7
              intro e8
              exact hQ _ _ i
            · intro e9
              exact hQ _ _ i
          · intro e10
            exact hQ _ _ i
        · refine ⟨?_, ?_⟩
          · intro e11
            refine ⟨?_, ?_⟩
            · intro e12
              exact hQ _ _ i
            · intro e13
              exact hQ _ _ i
          · refine ⟨?_, ?_⟩
            · intro e14
              refine ⟨?_, ?_⟩
              · intro e15
                exact hQ _ _ i
              · intro e16
                exact hQ _ _ i
            · refine ⟨?_, ?_⟩
              · intro e17
                refine ⟨?_, ?_⟩
                · intro e18
                  exact hQ _ _ i
                · intro e19
                  refine ⟨?_, ?_⟩
                  · intro e20
                    exact hQ _ _ i
                  · intro e21
                    exact hQ _ _ i
              · intro e22 e23 e24 e25 e26 e27 e28
                refine ⟨?_, ?_⟩
                · intro e29
                  exact hQ _ _ i
                · intro e30
                  refine ⟨?_, ?_⟩
                  · intro e31
                    exact hQ _ _ i
                  · intro e32
                    exact hQ _ _ i
def vX12_told_187 (k8 : Int32 → Int32 → Int32 → Int32 → km_S → Prop) (Q : Int32 → km_S → Prop) (l2 : Int32) (l3 : Int32) (l4 : Int32) (l5 : Int32) (μ : km_S) : Prop := ∀ v1 : Int32, v1 = l5 + 1 → k8 l2 l3 l4 v1 μ
set_option maxRecDepth 100000 in
set_option maxHeartbeats 4000000 in
theorem jcX12_told_187 {k8 k8' k8'' : Int32 → Int32 → Int32 → Int32 → km_S → Prop} (hk8 : ∀ y0 y1 y2 y3 y4, k8 y0 y1 y2 y3 y4 → k8' y0 y1 y2 y3 y4 → k8'' y0 y1 y2 y3 y4) {Q Q' Q'' : Int32 → km_S → Prop} (hQ : ∀ y0 y1, Q y0 y1 → Q' y0 y1 → Q'' y0 y1) : ∀ (l2 : Int32) (l3 : Int32) (l4 : Int32) (l5 : Int32) (μ : km_S), wX12_told_187 k8 Q l2 l3 l4 l5 μ → vX12_told_187 k8' Q' l2 l3 l4 l5 μ → wX12_told_187 k8'' Q'' l2 l3 l4 l5 μ := by
  intro l2 l3 l4 l5 μ h v
  unfold wX12_told_187 at h
  unfold vX12_told_187 at v
  unfold wX12_told_187
  intro v1 e1
  have h := h v1 e1
  have v := v v1 e1
  exact hk8 _ _ _ _ _ h v
set_option maxRecDepth 100000 in
set_option maxHeartbeats 4000000 in
theorem jaX12_told_187 {k8 k8' : Int32 → Int32 → Int32 → Int32 → km_S → Prop} (hk8 : ∀ y0 y1 y2 y3 y4, k8 y0 y1 y2 y3 y4 → k8' y0 y1 y2 y3 y4) {Q Q' : Int32 → km_S → Prop} (hQ : ∀ y0 y1, Q y0 y1 → Q' y0 y1) : ∀ (l2 : Int32) (l3 : Int32) (l4 : Int32) (l5 : Int32) (μ : km_S), wX12_told_187 k8 Q l2 l3 l4 l5 μ → vX12_told_187 k8' Q' l2 l3 l4 l5 μ := by
  intro l2 l3 l4 l5 μ h
  unfold wX12_told_187 at h
  unfold vX12_told_187
  intro v1 e1
  have h := h v1 e1
  exact hk8 _ _ _ _ _ h
set_option maxRecDepth 100000 in
set_option maxHeartbeats 4000000 in
theorem jfX12_told_187 {I : km_S → Prop} (W : gw_ I []) {k8 : Int32 → Int32 → Int32 → Int32 → km_S → Prop} (hk8 : ∀ y0 y1 y2 y3 y4, I y4 → k8 y0 y1 y2 y3 y4) {Q : Int32 → km_S → Prop} (hQ : ∀ y0 y1, I y1 → Q y0 y1) : ∀ (l2 : Int32) (l3 : Int32) (l4 : Int32) (l5 : Int32) (μ : km_S), I μ → vX12_told_187 k8 Q l2 l3 l4 l5 μ := by
  intro l2 l3 l4 l5 μ i
  unfold vX12_told_187
  intro v1 e1
  exact hk8 _ _ _ _ _ i
def vX12_told_137 (k187 : Int32 → Int32 → Int32 → Int32 → km_S → Prop) (Q : Int32 → km_S → Prop) (l2 : Int32) (l3 : Int32) (l4 : Int32) (l5 : Int32) (s0 : Int32) (s1 : Int32) (μ : km_S) : Prop := vp_in s1 200 → ∀ μ3, μ3 = km_sa μ 57 s1.toNatClampNeg s0 → k187 l2 l3 l4 l5 μ3
set_option maxRecDepth 100000 in
set_option maxHeartbeats 4000000 in
theorem jcX12_told_137 {k187 k187' k187'' : Int32 → Int32 → Int32 → Int32 → km_S → Prop} (hk187 : ∀ y0 y1 y2 y3 y4, k187 y0 y1 y2 y3 y4 → k187' y0 y1 y2 y3 y4 → k187'' y0 y1 y2 y3 y4) {Q Q' Q'' : Int32 → km_S → Prop} (hQ : ∀ y0 y1, Q y0 y1 → Q' y0 y1 → Q'' y0 y1) : ∀ (l2 : Int32) (l3 : Int32) (l4 : Int32) (l5 : Int32) (s0 : Int32) (s1 : Int32) (μ : km_S), wX12_told_137 k187 Q l2 l3 l4 l5 s0 s1 μ → vX12_told_137 k187' Q' l2 l3 l4 l5 s0 s1 μ → wX12_told_137 k187'' Q'' l2 l3 l4 l5 s0 s1 μ := by
  intro l2 l3 l4 l5 s0 s1 μ h v
  unfold wX12_told_137 at h
  unfold vX12_told_137 at v
  unfold wX12_told_137
  refine ⟨h.1, ?_⟩
  have v := v h.1
  have h := h.2
  intro μ3 e2
  have h := h μ3 e2
  have v := v μ3 e2
  exact hk187 _ _ _ _ _ h v
set_option maxRecDepth 100000 in
set_option maxHeartbeats 4000000 in
theorem jaX12_told_137 {k187 k187' : Int32 → Int32 → Int32 → Int32 → km_S → Prop} (hk187 : ∀ y0 y1 y2 y3 y4, k187 y0 y1 y2 y3 y4 → k187' y0 y1 y2 y3 y4) {Q Q' : Int32 → km_S → Prop} (hQ : ∀ y0 y1, Q y0 y1 → Q' y0 y1) : ∀ (l2 : Int32) (l3 : Int32) (l4 : Int32) (l5 : Int32) (s0 : Int32) (s1 : Int32) (μ : km_S), wX12_told_137 k187 Q l2 l3 l4 l5 s0 s1 μ → vX12_told_137 k187' Q' l2 l3 l4 l5 s0 s1 μ := by
  intro l2 l3 l4 l5 s0 s1 μ h
  unfold wX12_told_137 at h
  unfold vX12_told_137
  intro e1
  have h := h.2
  intro μ3 e2
  have h := h μ3 e2
  exact hk187 _ _ _ _ _ h
set_option maxRecDepth 100000 in
set_option maxHeartbeats 4000000 in
theorem jfX12_told_137 {I : km_S → Prop} (W : gw_ I [57]) {k187 : Int32 → Int32 → Int32 → Int32 → km_S → Prop} (hk187 : ∀ y0 y1 y2 y3 y4, I y4 → k187 y0 y1 y2 y3 y4) {Q : Int32 → km_S → Prop} (hQ : ∀ y0 y1, I y1 → Q y0 y1) : ∀ (l2 : Int32) (l3 : Int32) (l4 : Int32) (l5 : Int32) (s0 : Int32) (s1 : Int32) (μ : km_S), I μ → vX12_told_137 k187 Q l2 l3 l4 l5 s0 s1 μ := by
  intro l2 l3 l4 l5 s0 s1 μ i
  unfold vX12_told_137
  intro e1
  intro μ3 e2
  have iμ3 : I μ3 := by rw [e2]; exact ((W _ i) 57 (by decide)).2.1 _ _
  exact hk187 _ _ _ _ _ iμ3
def vX12_told_193 (Q : Int32 → km_S → Prop) (μ : km_S) : Prop := Q (km_a μ 57 (Int32.toNatClampNeg 0)) μ
set_option maxRecDepth 100000 in
set_option maxHeartbeats 4000000 in
theorem jcX12_told_193 {Q Q' Q'' : Int32 → km_S → Prop} (hQ : ∀ y0 y1, Q y0 y1 → Q' y0 y1 → Q'' y0 y1) : ∀ (μ : km_S), wX12_told_193 Q μ → vX12_told_193 Q' μ → wX12_told_193 Q'' μ := by
  intro μ h v
  unfold wX12_told_193 at h
  unfold vX12_told_193 at v
  unfold wX12_told_193
  exact hQ _ _ h v
set_option maxRecDepth 100000 in
set_option maxHeartbeats 4000000 in
theorem jaX12_told_193 {Q Q' : Int32 → km_S → Prop} (hQ : ∀ y0 y1, Q y0 y1 → Q' y0 y1) : ∀ (μ : km_S), wX12_told_193 Q μ → vX12_told_193 Q' μ := by
  intro μ h
  unfold wX12_told_193 at h
  unfold vX12_told_193
  exact hQ _ _ h
set_option maxRecDepth 100000 in
set_option maxHeartbeats 4000000 in
theorem jfX12_told_193 {I : km_S → Prop} (W : gw_ I []) {Q : Int32 → km_S → Prop} (hQ : ∀ y0 y1, I y1 → Q y0 y1) : ∀ (μ : km_S), I μ → vX12_told_193 Q μ := by
  intro μ i
  unfold vX12_told_193
  exact hQ _ _ i
def vX12_told_8 (k193 : km_S → Prop) (Q : Int32 → km_S → Prop) : Nat → Int32 → Int32 → Int32 → Int32 → km_S → Prop
  | 0, _, _, _, _, _ => True
  | n + 1, l2, l3, l4, l5, μ => ((l2 ≤ l5 → k193 μ) ∧ (¬ (l2 ≤ l5) → vp_in l5 5400 → ∀ v6, v6 = km_a μ 56 l5.toNatClampNeg → ((¬ v6 = 0 → ((v6 < 20 → ((¬ v6 = 9 → ∀ μ10, μ10 = km_si μ 68 ((km_i μ 68) - 1) → vp_in ((km_i μ10 68) - 1) 200 → vp_in (km_i μ10 68) 200 → vX12_two v6 (km_a μ10 57 ((km_i μ10 68) - 1).toNatClampNeg) (km_a μ10 57 (km_i μ10 68).toNatClampNeg) μ10 (fun r14 μ13 => vp_in ((km_i μ10 68) - 1) 200 → ∀ μ16, μ16 = km_sa μ13 57 ((km_i μ10 68) - 1).toNatClampNeg r14 → vX12_told_187 (vX12_told_8 k193 Q n) Q l2 l3 l4 l5 μ16)) ∧ (v6 = 9 → vp_in ((km_i μ 68) - 1) 200 → ((¬ (km_a μ 57 ((km_i μ 68) - 1).toNatClampNeg) = 0 → vX12_told_137 (vX12_told_187 (vX12_told_8 k193 Q n) Q) Q l2 l3 l4 l5 0 ((km_i μ 68) - 1) μ) ∧ ((km_a μ 57 ((km_i μ 68) - 1).toNatClampNeg) = 0 → vX12_told_137 (vX12_told_187 (vX12_told_8 k193 Q n) Q) Q l2 l3 l4 l5 1 ((km_i μ 68) - 1) μ))))) ∧ (¬ (v6 < 20) → vX12_value (v6 - 20) l3 l4 μ (fun r20 μ19 => vp_in (km_i μ 68) 200 → ∀ μ22, μ22 = km_sa μ19 57 (km_i μ 68).toNatClampNeg r20 → ∀ μ23, μ23 = km_si μ22 68 ((km_i μ22 68) + 1) → vX12_told_187 (vX12_told_8 k193 Q n) Q l2 l3 l4 l5 μ23)))) ∧ (v6 = 0 → ∀ v24 : Int32, v24 = l5 + 1 → vp_in v24 5400 → vp_in (km_i μ 68) 200 → ∀ μ27, μ27 = km_sa μ 57 (km_i μ 68).toNatClampNeg (km_a μ 56 v24.toNatClampNeg) → ∀ μ28, μ28 = km_si μ27 68 ((km_i μ27 68) + 1) → vX12_told_187 (vX12_told_8 k193 Q n) Q l2 l3 l4 v24 μ28))))
set_option maxRecDepth 100000 in
set_option maxHeartbeats 4000000 in
theorem jcX12_told_8 {k193 k193' k193'' : km_S → Prop} (hk193 : ∀ y0, k193 y0 → k193' y0 → k193'' y0) {Q Q' Q'' : Int32 → km_S → Prop} (hQ : ∀ y0 y1, Q y0 y1 → Q' y0 y1 → Q'' y0 y1) : ∀ (n : Nat) (l2 : Int32) (l3 : Int32) (l4 : Int32) (l5 : Int32) (μ : km_S), wX12_told_8 k193 Q n l2 l3 l4 l5 μ → vX12_told_8 k193' Q' n l2 l3 l4 l5 μ → wX12_told_8 k193'' Q'' n l2 l3 l4 l5 μ := by
  intro n
  induction n with
  | zero => intro l2 l3 l4 l5 μ h; exact h.elim
  | succ n ih =>
    intro l2 l3 l4 l5 μ h v
    unfold wX12_told_8 at h
    unfold vX12_told_8 at v
    unfold wX12_told_8
    refine ⟨?_, ?_⟩
    · have h := h.1
      have v := v.1
      intro e1
      have h := h e1
      have v := v e1
      exact hk193 _ h v
    · have h := h.2
      have v := v.2
      intro e2
      have h := h e2
      have v := v e2
      refine ⟨h.1, ?_⟩
      have v := v h.1
      have h := h.2
      intro v6 e4
      have h := h v6 e4
      have v := v v6 e4
      refine ⟨?_, ?_⟩
      · have h := h.1
        have v := v.1
        intro e5
        have h := h e5
        have v := v e5
        refine ⟨?_, ?_⟩
        · have h := h.1
          have v := v.1
          intro e6
          have h := h e6
          have v := v e6
          refine ⟨?_, ?_⟩
          · have h := h.1
            have v := v.1
            intro e7
            have h := h e7
            have v := v e7
            intro μ10 e8
            have h := h μ10 e8
            have v := v μ10 e8
            refine ⟨h.1, ?_⟩
            have v := v h.1
            have h := h.2
            refine ⟨h.1, ?_⟩
            have v := v h.1
            have h := h.2
            refine jcX12_two ?_ _ _ _ _ h v
            intro r14 μ13 h v
            refine ⟨h.1, ?_⟩
            have v := v h.1
            have h := h.2
            intro μ16 e12
            have h := h μ16 e12
            have v := v μ16 e12
            exact jcX12_told_187 (k8 := wX12_told_8 k193 Q n) (k8' := vX12_told_8 k193' Q' n) (k8'' := wX12_told_8 k193'' Q'' n) (fun _ _ _ _ _ h v => ih _ _ _ _ _ h v) hQ _ _ _ _ _ h v
          · have h := h.2
            have v := v.2
            intro e13
            have h := h e13
            have v := v e13
            refine ⟨h.1, ?_⟩
            have v := v h.1
            have h := h.2
            refine ⟨?_, ?_⟩
            · have h := h.1
              have v := v.1
              intro e15
              have h := h e15
              have v := v e15
              exact jcX12_told_137 (k187 := wX12_told_187 (wX12_told_8 k193 Q n) Q) (k187' := vX12_told_187 (vX12_told_8 k193' Q' n) Q') (k187'' := wX12_told_187 (wX12_told_8 k193'' Q'' n) Q'') (fun _ _ _ _ _ h v => jcX12_told_187 (k8 := wX12_told_8 k193 Q n) (k8' := vX12_told_8 k193' Q' n) (k8'' := wX12_told_8 k193'' Q'' n) (fun _ _ _ _ _ h v => ih _ _ _ _ _ h v) hQ _ _ _ _ _ h v) hQ _ _ _ _ _ _ _ h v
            · have h := h.2
              have v := v.2
              intro e16
              have h := h e16
              have v := v e16
              exact jcX12_told_137 (k187 := wX12_told_187 (wX12_told_8 k193 Q n) Q) (k187' := vX12_told_187 (vX12_told_8 k193' Q' n) Q') (k187'' := wX12_told_187 (wX12_told_8 k193'' Q'' n) Q'') (fun _ _ _ _ _ h v => jcX12_told_187 (k8 := wX12_told_8 k193 Q n) (k8' := vX12_told_8 k193' Q' n) (k8'' := wX12_told_8 k193'' Q'' n) (fun _ _ _ _ _ h v => ih _ _ _ _ _ h v) hQ _ _ _ _ _ h v) hQ _ _ _ _ _ _ _ h v
        · have h := h.2
          have v := v.2
          intro e17
          have h := h e17
          have v := v e17
          refine jcX12_value ?_ _ _ _ _ h v
          intro r20 μ19 h v
          refine ⟨h.1, ?_⟩
          have v := v h.1
          have h := h.2
          intro μ22 e19
          have h := h μ22 e19
          have v := v μ22 e19
          intro μ23 e20
          have h := h μ23 e20
          have v := v μ23 e20
          exact jcX12_told_187 (k8 := wX12_told_8 k193 Q n) (k8' := vX12_told_8 k193' Q' n) (k8'' := wX12_told_8 k193'' Q'' n) (fun _ _ _ _ _ h v => ih _ _ _ _ _ h v) hQ _ _ _ _ _ h v
      · have h := h.2
        have v := v.2
        intro e21
        have h := h e21
        have v := v e21
        intro v24 e22
        have h := h v24 e22
        have v := v v24 e22
        refine ⟨h.1, ?_⟩
        have v := v h.1
        have h := h.2
        refine ⟨h.1, ?_⟩
        have v := v h.1
        have h := h.2
        intro μ27 e25
        have h := h μ27 e25
        have v := v μ27 e25
        intro μ28 e26
        have h := h μ28 e26
        have v := v μ28 e26
        exact jcX12_told_187 (k8 := wX12_told_8 k193 Q n) (k8' := vX12_told_8 k193' Q' n) (k8'' := wX12_told_8 k193'' Q'' n) (fun _ _ _ _ _ h v => ih _ _ _ _ _ h v) hQ _ _ _ _ _ h v
set_option maxRecDepth 100000 in
set_option maxHeartbeats 4000000 in
theorem jaX12_told_8 {k193 k193' : km_S → Prop} (hk193 : ∀ y0, k193 y0 → k193' y0) {Q Q' : Int32 → km_S → Prop} (hQ : ∀ y0 y1, Q y0 y1 → Q' y0 y1) : ∀ (n m : Nat) (l2 : Int32) (l3 : Int32) (l4 : Int32) (l5 : Int32) (μ : km_S), wX12_told_8 k193 Q n l2 l3 l4 l5 μ → vX12_told_8 k193' Q' m l2 l3 l4 l5 μ := by
  intro n
  induction n with
  | zero => intro m l2 l3 l4 l5 μ h; exact h.elim
  | succ n ih =>
    intro m l2 l3 l4 l5 μ h
    cases m with
    | zero => exact trivial
    | succ m =>
      unfold wX12_told_8 at h
      unfold vX12_told_8
      refine ⟨?_, ?_⟩
      · have h := h.1
        intro e1
        have h := h e1
        exact hk193 _ h
      · have h := h.2
        intro e2
        have h := h e2
        intro e3
        have h := h.2
        intro v6 e4
        have h := h v6 e4
        refine ⟨?_, ?_⟩
        · have h := h.1
          intro e5
          have h := h e5
          refine ⟨?_, ?_⟩
          · have h := h.1
            intro e6
            have h := h e6
            refine ⟨?_, ?_⟩
            · have h := h.1
              intro e7
              have h := h e7
              intro μ10 e8
              have h := h μ10 e8
              intro e9
              have h := h.2
              intro e10
              have h := h.2
              refine jaX12_two ?_ _ _ _ _ h
              intro r14 μ13 h
              intro e11
              have h := h.2
              intro μ16 e12
              have h := h μ16 e12
              exact jaX12_told_187 (k8 := wX12_told_8 k193 Q n) (k8' := vX12_told_8 k193' Q' m) (fun _ _ _ _ _ h => ih m _ _ _ _ _ h) hQ _ _ _ _ _ h
            · have h := h.2
              intro e13
              have h := h e13
              intro e14
              have h := h.2
              refine ⟨?_, ?_⟩
              · have h := h.1
                intro e15
                have h := h e15
                exact jaX12_told_137 (k187 := wX12_told_187 (wX12_told_8 k193 Q n) Q) (k187' := vX12_told_187 (vX12_told_8 k193' Q' m) Q') (fun _ _ _ _ _ h => jaX12_told_187 (k8 := wX12_told_8 k193 Q n) (k8' := vX12_told_8 k193' Q' m) (fun _ _ _ _ _ h => ih m _ _ _ _ _ h) hQ _ _ _ _ _ h) hQ _ _ _ _ _ _ _ h
              · have h := h.2
                intro e16
                have h := h e16
                exact jaX12_told_137 (k187 := wX12_told_187 (wX12_told_8 k193 Q n) Q) (k187' := vX12_told_187 (vX12_told_8 k193' Q' m) Q') (fun _ _ _ _ _ h => jaX12_told_187 (k8 := wX12_told_8 k193 Q n) (k8' := vX12_told_8 k193' Q' m) (fun _ _ _ _ _ h => ih m _ _ _ _ _ h) hQ _ _ _ _ _ h) hQ _ _ _ _ _ _ _ h
          · have h := h.2
            intro e17
            have h := h e17
            refine jaX12_value ?_ _ _ _ _ h
            intro r20 μ19 h
            intro e18
            have h := h.2
            intro μ22 e19
            have h := h μ22 e19
            intro μ23 e20
            have h := h μ23 e20
            exact jaX12_told_187 (k8 := wX12_told_8 k193 Q n) (k8' := vX12_told_8 k193' Q' m) (fun _ _ _ _ _ h => ih m _ _ _ _ _ h) hQ _ _ _ _ _ h
        · have h := h.2
          intro e21
          have h := h e21
          intro v24 e22
          have h := h v24 e22
          intro e23
          have h := h.2
          intro e24
          have h := h.2
          intro μ27 e25
          have h := h μ27 e25
          intro μ28 e26
          have h := h μ28 e26
          exact jaX12_told_187 (k8 := wX12_told_8 k193 Q n) (k8' := vX12_told_8 k193' Q' m) (fun _ _ _ _ _ h => ih m _ _ _ _ _ h) hQ _ _ _ _ _ h
set_option maxRecDepth 100000 in
set_option maxHeartbeats 4000000 in
theorem jfX12_told_8 {I : km_S → Prop} (W : gw_ I [57, 68]) {k193 : km_S → Prop} (hk193 : ∀ y0, I y0 → k193 y0) {Q : Int32 → km_S → Prop} (hQ : ∀ y0 y1, I y1 → Q y0 y1) : ∀ (n : Nat) (l2 : Int32) (l3 : Int32) (l4 : Int32) (l5 : Int32) (μ : km_S), I μ → vX12_told_8 k193 Q n l2 l3 l4 l5 μ := by
  intro n
  induction n with
  | zero => intro l2 l3 l4 l5 μ i; exact trivial
  | succ n ih =>
    intro l2 l3 l4 l5 μ i
    unfold vX12_told_8
    refine ⟨?_, ?_⟩
    · intro e1
      exact hk193 _ i
    · intro e2
      intro e3
      intro v6 e4
      refine ⟨?_, ?_⟩
      · intro e5
        refine ⟨?_, ?_⟩
        · intro e6
          refine ⟨?_, ?_⟩
          · intro e7
            intro μ10 e8
            have iμ10 : I μ10 := by rw [e8]; exact ((W _ i) 68 (by decide)).1 _
            intro e9
            intro e10
            refine jfX12_two (I := I) (gw_sub W (by decide)) ?_ _ _ _ _ iμ10
            intro r14 μ13 iμ13
            intro e11
            intro μ16 e12
            have iμ16 : I μ16 := by rw [e12]; exact ((W _ iμ13) 57 (by decide)).2.1 _ _
            exact jfX12_told_187 (I := I) (gw_sub W (by decide)) (k8 := vX12_told_8 k193 Q n) (fun _ _ _ _ _ i => ih _ _ _ _ _ i) hQ _ _ _ _ _ iμ16
          · intro e13
            intro e14
            refine ⟨?_, ?_⟩
            · intro e15
              exact jfX12_told_137 (I := I) (gw_sub W (by decide)) (k187 := vX12_told_187 (vX12_told_8 k193 Q n) Q) (fun _ _ _ _ _ i => jfX12_told_187 (I := I) (gw_sub W (by decide)) (k8 := vX12_told_8 k193 Q n) (fun _ _ _ _ _ i => ih _ _ _ _ _ i) hQ _ _ _ _ _ i) hQ _ _ _ _ _ _ _ i
            · intro e16
              exact jfX12_told_137 (I := I) (gw_sub W (by decide)) (k187 := vX12_told_187 (vX12_told_8 k193 Q n) Q) (fun _ _ _ _ _ i => jfX12_told_187 (I := I) (gw_sub W (by decide)) (k8 := vX12_told_8 k193 Q n) (fun _ _ _ _ _ i => ih _ _ _ _ _ i) hQ _ _ _ _ _ i) hQ _ _ _ _ _ _ _ i
        · intro e17
          refine jfX12_value (I := I) (gw_sub W (by decide)) ?_ _ _ _ _ i
          intro r20 μ19 iμ19
          intro e18
          intro μ22 e19
          have iμ22 : I μ22 := by rw [e19]; exact ((W _ iμ19) 57 (by decide)).2.1 _ _
          intro μ23 e20
          have iμ23 : I μ23 := by rw [e20]; exact ((W _ iμ22) 68 (by decide)).1 _
          exact jfX12_told_187 (I := I) (gw_sub W (by decide)) (k8 := vX12_told_8 k193 Q n) (fun _ _ _ _ _ i => ih _ _ _ _ _ i) hQ _ _ _ _ _ iμ23
      · intro e21
        intro v24 e22
        intro e23
        intro e24
        intro μ27 e25
        have iμ27 : I μ27 := by rw [e25]; exact ((W _ i) 57 (by decide)).2.1 _ _
        intro μ28 e26
        have iμ28 : I μ28 := by rw [e26]; exact ((W _ iμ27) 68 (by decide)).1 _
        exact jfX12_told_187 (I := I) (gw_sub W (by decide)) (k8 := vX12_told_8 k193 Q n) (fun _ _ _ _ _ i => ih _ _ _ _ _ i) hQ _ _ _ _ _ iμ28
def vX12_told (l1 : Int32) (l2 : Int32) (l3 : Int32) (l4 : Int32) (μ : km_S) (Q : Int32 → km_S → Prop) : Prop := ∀ μ29, μ29 = km_si μ 68 0 → ∀ j, vX12_told_8 (vX12_told_193 Q) Q j l2 l3 l4 l1 μ29
set_option maxRecDepth 100000 in
set_option maxHeartbeats 4000000 in
theorem jcX12_told {Q Q' Q'' : Int32 → km_S → Prop} (hQ : ∀ y0 y1, Q y0 y1 → Q' y0 y1 → Q'' y0 y1) : ∀ (l1 : Int32) (l2 : Int32) (l3 : Int32) (l4 : Int32) (μ : km_S), wX12_told l1 l2 l3 l4 μ Q → vX12_told l1 l2 l3 l4 μ Q' → wX12_told l1 l2 l3 l4 μ Q'' := by
  intro l1 l2 l3 l4 μ h v
  unfold wX12_told at h
  unfold vX12_told at v
  unfold wX12_told
  intro μ29 e1
  have h := h μ29 e1
  have v := v μ29 e1
  obtain ⟨j, h⟩ := h
  refine ⟨j, ?_⟩
  have v := v j
  exact jcX12_told_8 (k193 := wX12_told_193 Q) (k193' := vX12_told_193 Q') (k193'' := wX12_told_193 Q'') (fun _ h v => jcX12_told_193 hQ _ h v) hQ _ _ _ _ _ _ h v
set_option maxRecDepth 100000 in
set_option maxHeartbeats 4000000 in
theorem jaX12_told {Q Q' : Int32 → km_S → Prop} (hQ : ∀ y0 y1, Q y0 y1 → Q' y0 y1) : ∀ (l1 : Int32) (l2 : Int32) (l3 : Int32) (l4 : Int32) (μ : km_S), wX12_told l1 l2 l3 l4 μ Q → vX12_told l1 l2 l3 l4 μ Q' := by
  intro l1 l2 l3 l4 μ h
  unfold wX12_told at h
  unfold vX12_told
  intro μ29 e1
  have h := h μ29 e1
  obtain ⟨j, h⟩ := h
  intro j9
  exact jaX12_told_8 (k193 := wX12_told_193 Q) (k193' := vX12_told_193 Q') (fun _ h => jaX12_told_193 hQ _ h) hQ _ j9 _ _ _ _ _ h
set_option maxRecDepth 100000 in
set_option maxHeartbeats 4000000 in
theorem jfX12_told {I : km_S → Prop} (W : gw_ I [57, 68]) {Q : Int32 → km_S → Prop} (hQ : ∀ y0 y1, I y1 → Q y0 y1) : ∀ (l1 : Int32) (l2 : Int32) (l3 : Int32) (l4 : Int32) (μ : km_S), I μ → vX12_told l1 l2 l3 l4 μ Q := by
  intro l1 l2 l3 l4 μ i
  unfold vX12_told
  intro μ29 e1
  have iμ29 : I μ29 := by rw [e1]; exact ((W _ i) 68 (by decide)).1 _
  intro j
  exact jfX12_told_8 (I := I) (gw_sub W (by decide)) (k193 := vX12_told_193 Q) (fun _ i => jfX12_told_193 (I := I) (gw_sub W (by decide)) hQ _ i) hQ _ _ _ _ _ _ iμ29
def vX12_ruled_180 (k182 : Int32 → Int32 → Int32 → Int32 → Int32 → Int32 → km_S → Prop) (Q : Int32 → km_S → Prop) (l1 : Int32) (l2 : Int32) (l3 : Int32) (l4 : Int32) (l6 : Int32) (s0 : Int32) (μ : km_S) : Prop := k182 l1 l2 l3 l4 s0 l6 μ
set_option maxRecDepth 100000 in
set_option maxHeartbeats 4000000 in
theorem jcX12_ruled_180 {k182 k182' k182'' : Int32 → Int32 → Int32 → Int32 → Int32 → Int32 → km_S → Prop} (hk182 : ∀ y0 y1 y2 y3 y4 y5 y6, k182 y0 y1 y2 y3 y4 y5 y6 → k182' y0 y1 y2 y3 y4 y5 y6 → k182'' y0 y1 y2 y3 y4 y5 y6) {Q Q' Q'' : Int32 → km_S → Prop} (hQ : ∀ y0 y1, Q y0 y1 → Q' y0 y1 → Q'' y0 y1) : ∀ (l1 : Int32) (l2 : Int32) (l3 : Int32) (l4 : Int32) (l6 : Int32) (s0 : Int32) (μ : km_S), wX12_ruled_180 k182 Q l1 l2 l3 l4 l6 s0 μ → vX12_ruled_180 k182' Q' l1 l2 l3 l4 l6 s0 μ → wX12_ruled_180 k182'' Q'' l1 l2 l3 l4 l6 s0 μ := by
  intro l1 l2 l3 l4 l6 s0 μ h v
  unfold wX12_ruled_180 at h
  unfold vX12_ruled_180 at v
  unfold wX12_ruled_180
  exact hk182 _ _ _ _ _ _ _ h v
set_option maxRecDepth 100000 in
set_option maxHeartbeats 4000000 in
theorem jaX12_ruled_180 {k182 k182' : Int32 → Int32 → Int32 → Int32 → Int32 → Int32 → km_S → Prop} (hk182 : ∀ y0 y1 y2 y3 y4 y5 y6, k182 y0 y1 y2 y3 y4 y5 y6 → k182' y0 y1 y2 y3 y4 y5 y6) {Q Q' : Int32 → km_S → Prop} (hQ : ∀ y0 y1, Q y0 y1 → Q' y0 y1) : ∀ (l1 : Int32) (l2 : Int32) (l3 : Int32) (l4 : Int32) (l6 : Int32) (s0 : Int32) (μ : km_S), wX12_ruled_180 k182 Q l1 l2 l3 l4 l6 s0 μ → vX12_ruled_180 k182' Q' l1 l2 l3 l4 l6 s0 μ := by
  intro l1 l2 l3 l4 l6 s0 μ h
  unfold wX12_ruled_180 at h
  unfold vX12_ruled_180
  exact hk182 _ _ _ _ _ _ _ h
set_option maxRecDepth 100000 in
set_option maxHeartbeats 4000000 in
theorem jfX12_ruled_180 {I : km_S → Prop} (W : gw_ I []) {k182 : Int32 → Int32 → Int32 → Int32 → Int32 → Int32 → km_S → Prop} (hk182 : ∀ y0 y1 y2 y3 y4 y5 y6, I y6 → k182 y0 y1 y2 y3 y4 y5 y6) {Q : Int32 → km_S → Prop} (hQ : ∀ y0 y1, I y1 → Q y0 y1) : ∀ (l1 : Int32) (l2 : Int32) (l3 : Int32) (l4 : Int32) (l6 : Int32) (s0 : Int32) (μ : km_S), I μ → vX12_ruled_180 k182 Q l1 l2 l3 l4 l6 s0 μ := by
  intro l1 l2 l3 l4 l6 s0 μ i
  unfold vX12_ruled_180
  exact hk182 _ _ _ _ _ _ _ i
def vX12_ruled_182 (k71 : Int32 → Int32 → Int32 → Int32 → Int32 → Int32 → km_S → Prop) (Q : Int32 → km_S → Prop) (l1 : Int32) (l2 : Int32) (l3 : Int32) (l4 : Int32) (l5 : Int32) (l6 : Int32) (μ : km_S) : Prop := ∀ v1 : Int32, v1 = l6 + 1 → k71 l1 l2 l3 l4 l5 v1 μ
set_option maxRecDepth 100000 in
set_option maxHeartbeats 4000000 in
theorem jcX12_ruled_182 {k71 k71' k71'' : Int32 → Int32 → Int32 → Int32 → Int32 → Int32 → km_S → Prop} (hk71 : ∀ y0 y1 y2 y3 y4 y5 y6, k71 y0 y1 y2 y3 y4 y5 y6 → k71' y0 y1 y2 y3 y4 y5 y6 → k71'' y0 y1 y2 y3 y4 y5 y6) {Q Q' Q'' : Int32 → km_S → Prop} (hQ : ∀ y0 y1, Q y0 y1 → Q' y0 y1 → Q'' y0 y1) : ∀ (l1 : Int32) (l2 : Int32) (l3 : Int32) (l4 : Int32) (l5 : Int32) (l6 : Int32) (μ : km_S), wX12_ruled_182 k71 Q l1 l2 l3 l4 l5 l6 μ → vX12_ruled_182 k71' Q' l1 l2 l3 l4 l5 l6 μ → wX12_ruled_182 k71'' Q'' l1 l2 l3 l4 l5 l6 μ := by
  intro l1 l2 l3 l4 l5 l6 μ h v
  unfold wX12_ruled_182 at h
  unfold vX12_ruled_182 at v
  unfold wX12_ruled_182
  intro v1 e1
  have h := h v1 e1
  have v := v v1 e1
  exact hk71 _ _ _ _ _ _ _ h v
set_option maxRecDepth 100000 in
set_option maxHeartbeats 4000000 in
theorem jaX12_ruled_182 {k71 k71' : Int32 → Int32 → Int32 → Int32 → Int32 → Int32 → km_S → Prop} (hk71 : ∀ y0 y1 y2 y3 y4 y5 y6, k71 y0 y1 y2 y3 y4 y5 y6 → k71' y0 y1 y2 y3 y4 y5 y6) {Q Q' : Int32 → km_S → Prop} (hQ : ∀ y0 y1, Q y0 y1 → Q' y0 y1) : ∀ (l1 : Int32) (l2 : Int32) (l3 : Int32) (l4 : Int32) (l5 : Int32) (l6 : Int32) (μ : km_S), wX12_ruled_182 k71 Q l1 l2 l3 l4 l5 l6 μ → vX12_ruled_182 k71' Q' l1 l2 l3 l4 l5 l6 μ := by
  intro l1 l2 l3 l4 l5 l6 μ h
  unfold wX12_ruled_182 at h
  unfold vX12_ruled_182
  intro v1 e1
  have h := h v1 e1
  exact hk71 _ _ _ _ _ _ _ h
set_option maxRecDepth 100000 in
set_option maxHeartbeats 4000000 in
theorem jfX12_ruled_182 {I : km_S → Prop} (W : gw_ I []) {k71 : Int32 → Int32 → Int32 → Int32 → Int32 → Int32 → km_S → Prop} (hk71 : ∀ y0 y1 y2 y3 y4 y5 y6, I y6 → k71 y0 y1 y2 y3 y4 y5 y6) {Q : Int32 → km_S → Prop} (hQ : ∀ y0 y1, I y1 → Q y0 y1) : ∀ (l1 : Int32) (l2 : Int32) (l3 : Int32) (l4 : Int32) (l5 : Int32) (l6 : Int32) (μ : km_S), I μ → vX12_ruled_182 k71 Q l1 l2 l3 l4 l5 l6 μ := by
  intro l1 l2 l3 l4 l5 l6 μ i
  unfold vX12_ruled_182
  intro v1 e1
  exact hk71 _ _ _ _ _ _ _ i
def vX12_ruled_59 (k6 : Int32 → Int32 → Int32 → Int32 → Int32 → km_S → Prop) (Q : Int32 → km_S → Prop) (l1 : Int32) (l2 : Int32) (l3 : Int32) (l4 : Int32) (l5 : Int32) (μ : km_S) : Prop := ∀ v2 : Int32, v2 = l5 + 1 → k6 l1 l2 l3 l4 v2 μ
set_option maxRecDepth 100000 in
set_option maxHeartbeats 4000000 in
theorem jcX12_ruled_59 {k6 k6' k6'' : Int32 → Int32 → Int32 → Int32 → Int32 → km_S → Prop} (hk6 : ∀ y0 y1 y2 y3 y4 y5, k6 y0 y1 y2 y3 y4 y5 → k6' y0 y1 y2 y3 y4 y5 → k6'' y0 y1 y2 y3 y4 y5) {Q Q' Q'' : Int32 → km_S → Prop} (hQ : ∀ y0 y1, Q y0 y1 → Q' y0 y1 → Q'' y0 y1) : ∀ (l1 : Int32) (l2 : Int32) (l3 : Int32) (l4 : Int32) (l5 : Int32) (μ : km_S), wX12_ruled_59 k6 Q l1 l2 l3 l4 l5 μ → vX12_ruled_59 k6' Q' l1 l2 l3 l4 l5 μ → wX12_ruled_59 k6'' Q'' l1 l2 l3 l4 l5 μ := by
  intro l1 l2 l3 l4 l5 μ h v
  unfold wX12_ruled_59 at h
  unfold vX12_ruled_59 at v
  unfold wX12_ruled_59
  intro v2 e1
  have h := h v2 e1
  have v := v v2 e1
  exact hk6 _ _ _ _ _ _ h v
set_option maxRecDepth 100000 in
set_option maxHeartbeats 4000000 in
theorem jaX12_ruled_59 {k6 k6' : Int32 → Int32 → Int32 → Int32 → Int32 → km_S → Prop} (hk6 : ∀ y0 y1 y2 y3 y4 y5, k6 y0 y1 y2 y3 y4 y5 → k6' y0 y1 y2 y3 y4 y5) {Q Q' : Int32 → km_S → Prop} (hQ : ∀ y0 y1, Q y0 y1 → Q' y0 y1) : ∀ (l1 : Int32) (l2 : Int32) (l3 : Int32) (l4 : Int32) (l5 : Int32) (μ : km_S), wX12_ruled_59 k6 Q l1 l2 l3 l4 l5 μ → vX12_ruled_59 k6' Q' l1 l2 l3 l4 l5 μ := by
  intro l1 l2 l3 l4 l5 μ h
  unfold wX12_ruled_59 at h
  unfold vX12_ruled_59
  intro v2 e1
  have h := h v2 e1
  exact hk6 _ _ _ _ _ _ h
set_option maxRecDepth 100000 in
set_option maxHeartbeats 4000000 in
theorem jfX12_ruled_59 {I : km_S → Prop} (W : gw_ I []) {k6 : Int32 → Int32 → Int32 → Int32 → Int32 → km_S → Prop} (hk6 : ∀ y0 y1 y2 y3 y4 y5, I y5 → k6 y0 y1 y2 y3 y4 y5) {Q : Int32 → km_S → Prop} (hQ : ∀ y0 y1, I y1 → Q y0 y1) : ∀ (l1 : Int32) (l2 : Int32) (l3 : Int32) (l4 : Int32) (l5 : Int32) (μ : km_S), I μ → vX12_ruled_59 k6 Q l1 l2 l3 l4 l5 μ := by
  intro l1 l2 l3 l4 l5 μ i
  unfold vX12_ruled_59
  intro v2 e1
  exact hk6 _ _ _ _ _ _ i
def vX12_ruled_55 (k59 : Int32 → Int32 → Int32 → Int32 → Int32 → km_S → Prop) (Q : Int32 → km_S → Prop) (l1 : Int32) (l2 : Int32) (l3 : Int32) (l5 : Int32) (μ : km_S) : Prop := k59 l1 l2 l3 l5 l5 μ
set_option maxRecDepth 100000 in
set_option maxHeartbeats 4000000 in
theorem jcX12_ruled_55 {k59 k59' k59'' : Int32 → Int32 → Int32 → Int32 → Int32 → km_S → Prop} (hk59 : ∀ y0 y1 y2 y3 y4 y5, k59 y0 y1 y2 y3 y4 y5 → k59' y0 y1 y2 y3 y4 y5 → k59'' y0 y1 y2 y3 y4 y5) {Q Q' Q'' : Int32 → km_S → Prop} (hQ : ∀ y0 y1, Q y0 y1 → Q' y0 y1 → Q'' y0 y1) : ∀ (l1 : Int32) (l2 : Int32) (l3 : Int32) (l5 : Int32) (μ : km_S), wX12_ruled_55 k59 Q l1 l2 l3 l5 μ → vX12_ruled_55 k59' Q' l1 l2 l3 l5 μ → wX12_ruled_55 k59'' Q'' l1 l2 l3 l5 μ := by
  intro l1 l2 l3 l5 μ h v
  unfold wX12_ruled_55 at h
  unfold vX12_ruled_55 at v
  unfold wX12_ruled_55
  exact hk59 _ _ _ _ _ _ h v
set_option maxRecDepth 100000 in
set_option maxHeartbeats 4000000 in
theorem jaX12_ruled_55 {k59 k59' : Int32 → Int32 → Int32 → Int32 → Int32 → km_S → Prop} (hk59 : ∀ y0 y1 y2 y3 y4 y5, k59 y0 y1 y2 y3 y4 y5 → k59' y0 y1 y2 y3 y4 y5) {Q Q' : Int32 → km_S → Prop} (hQ : ∀ y0 y1, Q y0 y1 → Q' y0 y1) : ∀ (l1 : Int32) (l2 : Int32) (l3 : Int32) (l5 : Int32) (μ : km_S), wX12_ruled_55 k59 Q l1 l2 l3 l5 μ → vX12_ruled_55 k59' Q' l1 l2 l3 l5 μ := by
  intro l1 l2 l3 l5 μ h
  unfold wX12_ruled_55 at h
  unfold vX12_ruled_55
  exact hk59 _ _ _ _ _ _ h
set_option maxRecDepth 100000 in
set_option maxHeartbeats 4000000 in
theorem jfX12_ruled_55 {I : km_S → Prop} (W : gw_ I []) {k59 : Int32 → Int32 → Int32 → Int32 → Int32 → km_S → Prop} (hk59 : ∀ y0 y1 y2 y3 y4 y5, I y5 → k59 y0 y1 y2 y3 y4 y5) {Q : Int32 → km_S → Prop} (hQ : ∀ y0 y1, I y1 → Q y0 y1) : ∀ (l1 : Int32) (l2 : Int32) (l3 : Int32) (l5 : Int32) (μ : km_S), I μ → vX12_ruled_55 k59 Q l1 l2 l3 l5 μ := by
  intro l1 l2 l3 l5 μ i
  unfold vX12_ruled_55
  exact hk59 _ _ _ _ _ _ i
def vX12_ruled_6 (k65 : Int32 → Int32 → Int32 → Int32 → km_S → Prop) (Q : Int32 → km_S → Prop) : Nat → Int32 → Int32 → Int32 → Int32 → Int32 → km_S → Prop
  | 0, _, _, _, _, _, _ => True
  | n + 1, l1, l2, l3, l4, l5, μ => (((km_i μ 5) ≤ l5 → k65 l1 l2 l3 l4 μ) ∧ (¬ ((km_i μ 5) ≤ l5) → vp_in l5 6 → ((((km_i μ 2) / 24) < (km_a μ 53 l5.toNatClampNeg) → vX12_ruled_59 (vX12_ruled_6 k65 Q n) Q l1 l2 l3 l4 l5 μ) ∧ (¬ (((km_i μ 2) / 24) < (km_a μ 53 l5.toNatClampNeg)) → ((l4 = (-1) → vX12_ruled_55 (vX12_ruled_59 (vX12_ruled_6 k65 Q n) Q) Q l1 l2 l3 l5 μ) ∧ (¬ (l4 = (-1)) → vp_in l5 6 → vp_in l4 6 → (((km_a μ 53 l5.toNatClampNeg) < (km_a μ 53 l4.toNatClampNeg) → vX12_ruled_59 (vX12_ruled_6 k65 Q n) Q l1 l2 l3 l4 l5 μ) ∧ (¬ ((km_a μ 53 l5.toNatClampNeg) < (km_a μ 53 l4.toNatClampNeg)) → vX12_ruled_55 (vX12_ruled_59 (vX12_ruled_6 k65 Q n) Q) Q l1 l2 l3 l5 μ))))))))
set_option maxRecDepth 100000 in
set_option maxHeartbeats 4000000 in
theorem jcX12_ruled_6 {k65 k65' k65'' : Int32 → Int32 → Int32 → Int32 → km_S → Prop} (hk65 : ∀ y0 y1 y2 y3 y4, k65 y0 y1 y2 y3 y4 → k65' y0 y1 y2 y3 y4 → k65'' y0 y1 y2 y3 y4) {Q Q' Q'' : Int32 → km_S → Prop} (hQ : ∀ y0 y1, Q y0 y1 → Q' y0 y1 → Q'' y0 y1) : ∀ (n : Nat) (l1 : Int32) (l2 : Int32) (l3 : Int32) (l4 : Int32) (l5 : Int32) (μ : km_S), wX12_ruled_6 k65 Q n l1 l2 l3 l4 l5 μ → vX12_ruled_6 k65' Q' n l1 l2 l3 l4 l5 μ → wX12_ruled_6 k65'' Q'' n l1 l2 l3 l4 l5 μ := by
  intro n
  induction n with
  | zero => intro l1 l2 l3 l4 l5 μ h; exact h.elim
  | succ n ih =>
    intro l1 l2 l3 l4 l5 μ h v
    unfold wX12_ruled_6 at h
    unfold vX12_ruled_6 at v
    unfold wX12_ruled_6
    refine ⟨?_, ?_⟩
    · have h := h.1
      have v := v.1
      intro e1
      have h := h e1
      have v := v e1
      exact hk65 _ _ _ _ _ h v
    · have h := h.2
      have v := v.2
      intro e2
      have h := h e2
      have v := v e2
      refine ⟨h.1, ?_⟩
      have v := v h.1
      have h := h.2
      refine ⟨?_, ?_⟩
      · have h := h.1
        have v := v.1
        intro e4
        have h := h e4
        have v := v e4
        exact jcX12_ruled_59 (k6 := wX12_ruled_6 k65 Q n) (k6' := vX12_ruled_6 k65' Q' n) (k6'' := wX12_ruled_6 k65'' Q'' n) (fun _ _ _ _ _ _ h v => ih _ _ _ _ _ _ h v) hQ _ _ _ _ _ _ h v
      · have h := h.2
        have v := v.2
        intro e5
        have h := h e5
        have v := v e5
        refine ⟨?_, ?_⟩
        · have h := h.1
          have v := v.1
          intro e6
          have h := h e6
          have v := v e6
          exact jcX12_ruled_55 (k59 := wX12_ruled_59 (wX12_ruled_6 k65 Q n) Q) (k59' := vX12_ruled_59 (vX12_ruled_6 k65' Q' n) Q') (k59'' := wX12_ruled_59 (wX12_ruled_6 k65'' Q'' n) Q'') (fun _ _ _ _ _ _ h v => jcX12_ruled_59 (k6 := wX12_ruled_6 k65 Q n) (k6' := vX12_ruled_6 k65' Q' n) (k6'' := wX12_ruled_6 k65'' Q'' n) (fun _ _ _ _ _ _ h v => ih _ _ _ _ _ _ h v) hQ _ _ _ _ _ _ h v) hQ _ _ _ _ _ h v
        · have h := h.2
          have v := v.2
          intro e7
          have h := h e7
          have v := v e7
          refine ⟨h.1, ?_⟩
          have v := v h.1
          have h := h.2
          refine ⟨h.1, ?_⟩
          have v := v h.1
          have h := h.2
          refine ⟨?_, ?_⟩
          · have h := h.1
            have v := v.1
            intro e10
            have h := h e10
            have v := v e10
            exact jcX12_ruled_59 (k6 := wX12_ruled_6 k65 Q n) (k6' := vX12_ruled_6 k65' Q' n) (k6'' := wX12_ruled_6 k65'' Q'' n) (fun _ _ _ _ _ _ h v => ih _ _ _ _ _ _ h v) hQ _ _ _ _ _ _ h v
          · have h := h.2
            have v := v.2
            intro e11
            have h := h e11
            have v := v e11
            exact jcX12_ruled_55 (k59 := wX12_ruled_59 (wX12_ruled_6 k65 Q n) Q) (k59' := vX12_ruled_59 (vX12_ruled_6 k65' Q' n) Q') (k59'' := wX12_ruled_59 (wX12_ruled_6 k65'' Q'' n) Q'') (fun _ _ _ _ _ _ h v => jcX12_ruled_59 (k6 := wX12_ruled_6 k65 Q n) (k6' := vX12_ruled_6 k65' Q' n) (k6'' := wX12_ruled_6 k65'' Q'' n) (fun _ _ _ _ _ _ h v => ih _ _ _ _ _ _ h v) hQ _ _ _ _ _ _ h v) hQ _ _ _ _ _ h v
set_option maxRecDepth 100000 in
set_option maxHeartbeats 4000000 in
theorem jaX12_ruled_6 {k65 k65' : Int32 → Int32 → Int32 → Int32 → km_S → Prop} (hk65 : ∀ y0 y1 y2 y3 y4, k65 y0 y1 y2 y3 y4 → k65' y0 y1 y2 y3 y4) {Q Q' : Int32 → km_S → Prop} (hQ : ∀ y0 y1, Q y0 y1 → Q' y0 y1) : ∀ (n m : Nat) (l1 : Int32) (l2 : Int32) (l3 : Int32) (l4 : Int32) (l5 : Int32) (μ : km_S), wX12_ruled_6 k65 Q n l1 l2 l3 l4 l5 μ → vX12_ruled_6 k65' Q' m l1 l2 l3 l4 l5 μ := by
  intro n
  induction n with
  | zero => intro m l1 l2 l3 l4 l5 μ h; exact h.elim
  | succ n ih =>
    intro m l1 l2 l3 l4 l5 μ h
    cases m with
    | zero => exact trivial
    | succ m =>
      unfold wX12_ruled_6 at h
      unfold vX12_ruled_6
      refine ⟨?_, ?_⟩
      · have h := h.1
        intro e1
        have h := h e1
        exact hk65 _ _ _ _ _ h
      · have h := h.2
        intro e2
        have h := h e2
        intro e3
        have h := h.2
        refine ⟨?_, ?_⟩
        · have h := h.1
          intro e4
          have h := h e4
          exact jaX12_ruled_59 (k6 := wX12_ruled_6 k65 Q n) (k6' := vX12_ruled_6 k65' Q' m) (fun _ _ _ _ _ _ h => ih m _ _ _ _ _ _ h) hQ _ _ _ _ _ _ h
        · have h := h.2
          intro e5
          have h := h e5
          refine ⟨?_, ?_⟩
          · have h := h.1
            intro e6
            have h := h e6
            exact jaX12_ruled_55 (k59 := wX12_ruled_59 (wX12_ruled_6 k65 Q n) Q) (k59' := vX12_ruled_59 (vX12_ruled_6 k65' Q' m) Q') (fun _ _ _ _ _ _ h => jaX12_ruled_59 (k6 := wX12_ruled_6 k65 Q n) (k6' := vX12_ruled_6 k65' Q' m) (fun _ _ _ _ _ _ h => ih m _ _ _ _ _ _ h) hQ _ _ _ _ _ _ h) hQ _ _ _ _ _ h
          · have h := h.2
            intro e7
            have h := h e7
            intro e8
            have h := h.2
            intro e9
            have h := h.2
            refine ⟨?_, ?_⟩
            · have h := h.1
              intro e10
              have h := h e10
              exact jaX12_ruled_59 (k6 := wX12_ruled_6 k65 Q n) (k6' := vX12_ruled_6 k65' Q' m) (fun _ _ _ _ _ _ h => ih m _ _ _ _ _ _ h) hQ _ _ _ _ _ _ h
            · have h := h.2
              intro e11
              have h := h e11
              exact jaX12_ruled_55 (k59 := wX12_ruled_59 (wX12_ruled_6 k65 Q n) Q) (k59' := vX12_ruled_59 (vX12_ruled_6 k65' Q' m) Q') (fun _ _ _ _ _ _ h => jaX12_ruled_59 (k6 := wX12_ruled_6 k65 Q n) (k6' := vX12_ruled_6 k65' Q' m) (fun _ _ _ _ _ _ h => ih m _ _ _ _ _ _ h) hQ _ _ _ _ _ _ h) hQ _ _ _ _ _ h
set_option maxRecDepth 100000 in
set_option maxHeartbeats 4000000 in
theorem jfX12_ruled_6 {I : km_S → Prop} (W : gw_ I []) {k65 : Int32 → Int32 → Int32 → Int32 → km_S → Prop} (hk65 : ∀ y0 y1 y2 y3 y4, I y4 → k65 y0 y1 y2 y3 y4) {Q : Int32 → km_S → Prop} (hQ : ∀ y0 y1, I y1 → Q y0 y1) : ∀ (n : Nat) (l1 : Int32) (l2 : Int32) (l3 : Int32) (l4 : Int32) (l5 : Int32) (μ : km_S), I μ → vX12_ruled_6 k65 Q n l1 l2 l3 l4 l5 μ := by
  intro n
  induction n with
  | zero => intro l1 l2 l3 l4 l5 μ i; exact trivial
  | succ n ih =>
    intro l1 l2 l3 l4 l5 μ i
    unfold vX12_ruled_6
    refine ⟨?_, ?_⟩
    · intro e1
      exact hk65 _ _ _ _ _ i
    · intro e2
      intro e3
      refine ⟨?_, ?_⟩
      · intro e4
        exact jfX12_ruled_59 (I := I) (gw_sub W (by decide)) (k6 := vX12_ruled_6 k65 Q n) (fun _ _ _ _ _ _ i => ih _ _ _ _ _ _ i) hQ _ _ _ _ _ _ i
      · intro e5
        refine ⟨?_, ?_⟩
        · intro e6
          exact jfX12_ruled_55 (I := I) (gw_sub W (by decide)) (k59 := vX12_ruled_59 (vX12_ruled_6 k65 Q n) Q) (fun _ _ _ _ _ _ i => jfX12_ruled_59 (I := I) (gw_sub W (by decide)) (k6 := vX12_ruled_6 k65 Q n) (fun _ _ _ _ _ _ i => ih _ _ _ _ _ _ i) hQ _ _ _ _ _ _ i) hQ _ _ _ _ _ i
        · intro e7
          intro e8
          intro e9
          refine ⟨?_, ?_⟩
          · intro e10
            exact jfX12_ruled_59 (I := I) (gw_sub W (by decide)) (k6 := vX12_ruled_6 k65 Q n) (fun _ _ _ _ _ _ i => ih _ _ _ _ _ _ i) hQ _ _ _ _ _ _ i
          · intro e11
            exact jfX12_ruled_55 (I := I) (gw_sub W (by decide)) (k59 := vX12_ruled_59 (vX12_ruled_6 k65 Q n) Q) (fun _ _ _ _ _ _ i => jfX12_ruled_59 (I := I) (gw_sub W (by decide)) (k6 := vX12_ruled_6 k65 Q n) (fun _ _ _ _ _ _ i => ih _ _ _ _ _ _ i) hQ _ _ _ _ _ _ i) hQ _ _ _ _ _ i

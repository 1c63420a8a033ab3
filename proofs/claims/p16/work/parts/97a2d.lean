def vX12_count_12 (k61 : Int32 → Int32 → Int32 → km_S → Prop) (Q : Int32 → km_S → Prop) : Nat → Int32 → Int32 → Int32 → Int32 → km_S → Prop
  | 0, _, _, _, _, _ => True
  | n + 1, l1, l2, l3, l4, μ => ((120 ≤ l4 → k61 l1 l2 l3 μ) ∧ (¬ (120 ≤ l4) → vp_in l4 120 → (((km_a μ 33 l4.toNatClampNeg) = 0 → vX12_count_35 (vX12_count_12 k61 Q n) Q l1 l3 l4 0 l2 μ) ∧ (¬ ((km_a μ 33 l4.toNatClampNeg) = 0) → vX12_count_35 (vX12_count_12 k61 Q n) Q l1 l3 l4 1 l2 μ))))
set_option maxRecDepth 100000 in
set_option maxHeartbeats 4000000 in
theorem jcX12_count_12 {k61 k61' k61'' : Int32 → Int32 → Int32 → km_S → Prop} (hk61 : ∀ y0 y1 y2 y3, k61 y0 y1 y2 y3 → k61' y0 y1 y2 y3 → k61'' y0 y1 y2 y3) {Q Q' Q'' : Int32 → km_S → Prop} (hQ : ∀ y0 y1, Q y0 y1 → Q' y0 y1 → Q'' y0 y1) : ∀ (n : Nat) (l1 : Int32) (l2 : Int32) (l3 : Int32) (l4 : Int32) (μ : km_S), wX12_count_12 k61 Q n l1 l2 l3 l4 μ → vX12_count_12 k61' Q' n l1 l2 l3 l4 μ → wX12_count_12 k61'' Q'' n l1 l2 l3 l4 μ := by
  intro n
  induction n with
  | zero => intro l1 l2 l3 l4 μ h; exact h.elim
  | succ n ih =>
    intro l1 l2 l3 l4 μ h v
    unfold wX12_count_12 at h
    unfold vX12_count_12 at v
    unfold wX12_count_12
    refine ⟨?_, ?_⟩
    · have h := h.1
      have v := v.1
      intro e1
      have h := h e1
      have v := v e1
      exact hk61 _ _ _ _ h v
    · have h := h.2
      have v := v.2
      intro e2
      have h := h e2
      have v := v e2
      refine ⟨h.1, ?_⟩
      have v := v h.1
      have h := h.2
      refine ⟨?_, ?_⟩
      · have h := h.1
        have v := v.1
        intro e4
        have h := h e4
        have v := v e4
        exact jcX12_count_35 (k12 := wX12_count_12 k61 Q n) (k12' := vX12_count_12 k61' Q' n) (k12'' := wX12_count_12 k61'' Q'' n) (fun _ _ _ _ _ h v => ih _ _ _ _ _ h v) hQ _ _ _ _ _ _ h v
      · have h := h.2
        have v := v.2
        intro e5
        have h := h e5
        have v := v e5
        exact jcX12_count_35 (k12 := wX12_count_12 k61 Q n) (k12' := vX12_count_12 k61' Q' n) (k12'' := wX12_count_12 k61'' Q'' n) (fun _ _ _ _ _ h v => ih _ _ _ _ _ h v) hQ _ _ _ _ _ _ h v
set_option maxRecDepth 100000 in
set_option maxHeartbeats 4000000 in
theorem jaX12_count_12 {k61 k61' : Int32 → Int32 → Int32 → km_S → Prop} (hk61 : ∀ y0 y1 y2 y3, k61 y0 y1 y2 y3 → k61' y0 y1 y2 y3) {Q Q' : Int32 → km_S → Prop} (hQ : ∀ y0 y1, Q y0 y1 → Q' y0 y1) : ∀ (n m : Nat) (l1 : Int32) (l2 : Int32) (l3 : Int32) (l4 : Int32) (μ : km_S), wX12_count_12 k61 Q n l1 l2 l3 l4 μ → vX12_count_12 k61' Q' m l1 l2 l3 l4 μ := by
  intro n
  induction n with
  | zero => intro m l1 l2 l3 l4 μ h; exact h.elim
  | succ n ih =>
    intro m l1 l2 l3 l4 μ h
    cases m with
    | zero => exact trivial
    | succ m =>
      unfold wX12_count_12 at h
      unfold vX12_count_12
      refine ⟨?_, ?_⟩
      · have h := h.1
        intro e1
        have h := h e1
        exact hk61 _ _ _ _ h
      · have h := h.2
        intro e2
        have h := h e2
        intro e3
        have h := h.2
        refine ⟨?_, ?_⟩
        · have h := h.1
          intro e4
          have h := h e4
          exact jaX12_count_35 (k12 := wX12_count_12 k61 Q n) (k12' := vX12_count_12 k61' Q' m) (fun _ _ _ _ _ h => ih m _ _ _ _ _ h) hQ _ _ _ _ _ _ h
        · have h := h.2
          intro e5
          have h := h e5
          exact jaX12_count_35 (k12 := wX12_count_12 k61 Q n) (k12' := vX12_count_12 k61' Q' m) (fun _ _ _ _ _ h => ih m _ _ _ _ _ h) hQ _ _ _ _ _ _ h
set_option maxRecDepth 100000 in
set_option maxHeartbeats 4000000 in
theorem jfX12_count_12 {I : km_S → Prop} (W : gw_ I []) {k61 : Int32 → Int32 → Int32 → km_S → Prop} (hk61 : ∀ y0 y1 y2 y3, I y3 → k61 y0 y1 y2 y3) {Q : Int32 → km_S → Prop} (hQ : ∀ y0 y1, I y1 → Q y0 y1) : ∀ (n : Nat) (l1 : Int32) (l2 : Int32) (l3 : Int32) (l4 : Int32) (μ : km_S), I μ → vX12_count_12 k61 Q n l1 l2 l3 l4 μ := by
  intro n
  induction n with
  | zero => intro l1 l2 l3 l4 μ i; exact trivial
  | succ n ih =>
    intro l1 l2 l3 l4 μ i
    unfold vX12_count_12
    refine ⟨?_, ?_⟩
    · intro e1
      exact hk61 _ _ _ _ i
    · intro e2
      intro e3
      refine ⟨?_, ?_⟩
      · intro e4
        exact jfX12_count_35 (I := I) (gw_sub W (by decide)) (k12 := vX12_count_12 k61 Q n) (fun _ _ _ _ _ i => ih _ _ _ _ _ i) hQ _ _ _ _ _ _ i
      · intro e5
        exact jfX12_count_35 (I := I) (gw_sub W (by decide)) (k12 := vX12_count_12 k61 Q n) (fun _ _ _ _ _ i => ih _ _ _ _ _ i) hQ _ _ _ _ _ _ i
def vX12_count_61 (Q : Int32 → km_S → Prop) (l1 : Int32) (l2 : Int32) (l3 : Int32) (μ : km_S) : Prop := ∀ v9, v9 = l1 → ((v9 = 0 → Q (km_i μ 2) μ) ∧ ((v9 = 1 → Q (km_i μ 3) μ) ∧ ((v9 = 2 → Q (km_i μ 4) μ) ∧ ((v9 = 3 → Q (km_i μ 5) μ) ∧ ((v9 = 4 → Q (km_i μ 6) μ) ∧ ((v9 = 5 → Q (km_i μ 7) μ) ∧ ((v9 = 6 → Q l2 μ) ∧ ((v9 = 7 → Q l3 μ) ∧ ((v9 = 8 → Q (km_i μ 8) μ) ∧ ((v9 = 9 → Q (km_i μ 9) μ) ∧ (¬ v9 = 0 → ¬ v9 = 1 → ¬ v9 = 2 → ¬ v9 = 3 → ¬ v9 = 4 → ¬ v9 = 5 → ¬ v9 = 6 → ¬ v9 = 7 → ¬ v9 = 8 → ¬ v9 = 9 → vX12_fail μ (fun r21 μ20 => Q r21 μ20))))))))))))
set_option maxRecDepth 100000 in
set_option maxHeartbeats 4000000 in
theorem jcX12_count_61 {Q Q' Q'' : Int32 → km_S → Prop} (hQ : ∀ y0 y1, Q y0 y1 → Q' y0 y1 → Q'' y0 y1) : ∀ (l1 : Int32) (l2 : Int32) (l3 : Int32) (μ : km_S), wX12_count_61 Q l1 l2 l3 μ → vX12_count_61 Q' l1 l2 l3 μ → wX12_count_61 Q'' l1 l2 l3 μ := by
  intro l1 l2 l3 μ h v
  unfold wX12_count_61 at h
  unfold vX12_count_61 at v
  unfold wX12_count_61
  intro v9 e1
  have h := h v9 e1
  have v := v v9 e1
  refine ⟨?_, ?_⟩
  · have h := h.1
    have v := v.1
    intro e2
    have h := h e2
    have v := v e2
    exact hQ _ _ h v
  · have h := h.2
    have v := v.2
    refine ⟨?_, ?_⟩
    · have h := h.1
      have v := v.1
      intro e3
      have h := h e3
      have v := v e3
      exact hQ _ _ h v
    · have h := h.2
      have v := v.2
      refine ⟨?_, ?_⟩
      · have h := h.1
        have v := v.1
        intro e4
        have h := h e4
        have v := v e4
        exact hQ _ _ h v
      · have h := h.2
        have v := v.2
        refine ⟨?_, ?_⟩
        · have h := h.1
          have v := v.1
          intro e5
          have h := h e5
          have v := v e5
          exact hQ _ _ h v
        · have h := h.2
          have v := v.2
          refine ⟨?_, ?_⟩
          · have h := h.1
            have v := v.1
            intro e6
            have h := h e6
            have v := v e6
            exact hQ _ _ h v
          · have h := h.2
            have v := v.2
            refine ⟨?_, ?_⟩
            · have h := h.1
              have v := v.1
              intro e7
              have h := h e7
              have v := v e7
              exact hQ _ _ h v
            · have h := h.2
              have v := v.2
              refine ⟨?_, ?_⟩
              · have h := h.1
                have v := v.1
                intro e8
                have h := h e8
                have v := v e8
                exact hQ _ _ h v
              · have h := h.2
                have v := v.2
                refine ⟨?_, ?_⟩
                · have h := h.1
                  have v := v.1
                  intro e9
                  have h := h e9
                  have v := v e9
                  exact hQ _ _ h v
                · have h := h.2
                  have v := v.2
                  refine ⟨?_, ?_⟩
                  · have h := h.1
                    have v := v.1
                    intro e10
                    have h := h e10
                    have v := v e10
                    exact hQ _ _ h v
                  · have h := h.2
                    have v := v.2
                    refine ⟨?_, ?_⟩
                    · have h := h.1
                      have v := v.1
                      intro e11
                      have h := h e11
                      have v := v e11
                      exact hQ _ _ h v
                    · have h := h.2
                      have v := v.2
                      intro e12 e13 e14 e15 e16 e17 e18 e19 e20 e21
                      have h := h e12 e13 e14 e15 e16 e17 e18 e19 e20 e21
                      have v := v e12 e13 e14 e15 e16 e17 e18 e19 e20 e21
                      refine jcX12_fail ?_ _ h v
                      intro r21 μ20 h v
                      exact hQ _ _ h v
set_option maxRecDepth 100000 in
set_option maxHeartbeats 4000000 in
theorem jaX12_count_61 {Q Q' : Int32 → km_S → Prop} (hQ : ∀ y0 y1, Q y0 y1 → Q' y0 y1) : ∀ (l1 : Int32) (l2 : Int32) (l3 : Int32) (μ : km_S), wX12_count_61 Q l1 l2 l3 μ → vX12_count_61 Q' l1 l2 l3 μ := by
  intro l1 l2 l3 μ h
  unfold wX12_count_61 at h
  unfold vX12_count_61
  intro v9 e1
  have h := h v9 e1
  refine ⟨?_, ?_⟩
  · have h := h.1
    intro e2
    have h := h e2
    exact hQ _ _ h
  · have h := h.2
    refine ⟨?_, ?_⟩
    · have h := h.1
      intro e3
      have h := h e3
      exact hQ _ _ h
    · have h := h.2
      refine ⟨?_, ?_⟩
      · have h := h.1
        intro e4
        have h := h e4
        exact hQ _ _ h
      · have h := h.2
        refine ⟨?_, ?_⟩
        · have h := h.1
          intro e5
          have h := h e5
          exact hQ _ _ h
        · have h := h.2
          refine ⟨?_, ?_⟩
          · have h := h.1
            intro e6
            have h := h e6
            exact hQ _ _ h
          · have h := h.2
            refine ⟨?_, ?_⟩
            · have h := h.1
              intro e7
              have h := h e7
              exact hQ _ _ h
            · have h := h.2
              refine ⟨?_, ?_⟩
              · have h := h.1
                intro e8
                have h := h e8
                exact hQ _ _ h
              · have h := h.2
                refine ⟨?_, ?_⟩
                · have h := h.1
                  intro e9
                  have h := h e9
                  exact hQ _ _ h
                · have h := h.2
                  refine ⟨?_, ?_⟩
                  · have h := h.1
                    intro e10
                    have h := h e10
                    exact hQ _ _ h
                  · have h := h.2
                    refine ⟨?_, ?_⟩
                    · have h := h.1
                      intro e11
                      have h := h e11
                      exact hQ _ _ h
                    · have h := h.2
                      intro e12 e13 e14 e15 e16 e17 e18 e19 e20 e21
                      have h := h e12 e13 e14 e15 e16 e17 e18 e19 e20 e21
                      refine jaX12_fail ?_ _ h
                      intro r21 μ20 h
                      exact hQ _ _ h
set_option maxRecDepth 100000 in
set_option maxHeartbeats 4000000 in
theorem jfX12_count_61 {I : km_S → Prop} (W : gw_ I [1]) {Q : Int32 → km_S → Prop} (hQ : ∀ y0 y1, I y1 → Q y0 y1) : ∀ (l1 : Int32) (l2 : Int32) (l3 : Int32) (μ : km_S), I μ → vX12_count_61 Q l1 l2 l3 μ := by
  intro l1 l2 l3 μ i
  unfold vX12_count_61
  intro v9 e1
  refine ⟨?_, ?_⟩
  · intro e2
    exact hQ _ _ i
  · refine ⟨?_, ?_⟩
    · intro e3
      exact hQ _ _ i
    · refine ⟨?_, ?_⟩
      · intro e4
        exact hQ _ _ i
      · refine ⟨?_, ?_⟩
        · intro e5
          exact hQ _ _ i
        · refine ⟨?_, ?_⟩
          · intro e6
            exact hQ _ _ i
          · refine ⟨?_, ?_⟩
            · intro e7
              exact hQ _ _ i
            · refine ⟨?_, ?_⟩
              · intro e8
                exact hQ _ _ i
              · refine ⟨?_, ?_⟩
                · intro e9
                  exact hQ _ _ i
                · refine ⟨?_, ?_⟩
                  · intro e10
                    exact hQ _ _ i
                  · refine ⟨?_, ?_⟩
                    · intro e11
                      exact hQ _ _ i
                    · intro e12 e13 e14 e15 e16 e17 e18 e19 e20 e21
                      refine jfX12_fail (I := I) (gw_sub W (by decide)) ?_ _ i
                      intro r21 μ20 iμ20
                      exact hQ _ _ iμ20
def vX12_count (l1 : Int32) (μ : km_S) (Q : Int32 → km_S → Prop) : Prop := ∀ μ22, μ22 = km_si μ 1 0 → ∀ j, vX12_count_12 (vX12_count_61 Q) Q j l1 0 0 0 μ22
set_option maxRecDepth 100000 in
set_option maxHeartbeats 4000000 in
theorem jcX12_count {Q Q' Q'' : Int32 → km_S → Prop} (hQ : ∀ y0 y1, Q y0 y1 → Q' y0 y1 → Q'' y0 y1) : ∀ (l1 : Int32) (μ : km_S), wX12_count l1 μ Q → vX12_count l1 μ Q' → wX12_count l1 μ Q'' := by
  intro l1 μ h v
  unfold wX12_count at h
  unfold vX12_count at v
  unfold wX12_count
  intro μ22 e1
  have h := h μ22 e1
  have v := v μ22 e1
  obtain ⟨j, h⟩ := h
  refine ⟨j, ?_⟩
  have v := v j
  exact jcX12_count_12 (k61 := wX12_count_61 Q) (k61' := vX12_count_61 Q') (k61'' := wX12_count_61 Q'') (fun _ _ _ _ h v => jcX12_count_61 hQ _ _ _ _ h v) hQ _ _ _ _ _ _ h v
set_option maxRecDepth 100000 in
set_option maxHeartbeats 4000000 in
theorem jaX12_count {Q Q' : Int32 → km_S → Prop} (hQ : ∀ y0 y1, Q y0 y1 → Q' y0 y1) : ∀ (l1 : Int32) (μ : km_S), wX12_count l1 μ Q → vX12_count l1 μ Q' := by
  intro l1 μ h
  unfold wX12_count at h
  unfold vX12_count
  intro μ22 e1
  have h := h μ22 e1
  obtain ⟨j, h⟩ := h
  intro j9
  exact jaX12_count_12 (k61 := wX12_count_61 Q) (k61' := vX12_count_61 Q') (fun _ _ _ _ h => jaX12_count_61 hQ _ _ _ _ h) hQ _ j9 _ _ _ _ _ h
set_option maxRecDepth 100000 in
set_option maxHeartbeats 4000000 in
theorem jfX12_count {I : km_S → Prop} (W : gw_ I [1]) {Q : Int32 → km_S → Prop} (hQ : ∀ y0 y1, I y1 → Q y0 y1) : ∀ (l1 : Int32) (μ : km_S), I μ → vX12_count l1 μ Q := by
  intro l1 μ i
  unfold vX12_count
  intro μ22 e1
  have iμ22 : I μ22 := by rw [e1]; exact ((W _ i) 1 (by decide)).1 _
  intro j
  exact jfX12_count_12 (I := I) (gw_sub W (by decide)) (k61 := vX12_count_61 Q) (fun _ _ _ _ i => jfX12_count_61 (I := I) (gw_sub W (by decide)) hQ _ _ _ _ i) hQ _ _ _ _ _ _ iμ22

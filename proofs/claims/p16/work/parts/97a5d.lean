def vX12_readLaw_133 (k6 : Int32 → km_S → Prop) (Q : km_S → Prop) (l1 : Int32) (μ : km_S) : Prop := ((¬ (km_i μ 66) = 0 → vX12_readLaw_144 k6 Q l1 μ) ∧ ((km_i μ 66) = 0 → vX12_step μ (fun μ2 => vX12_readLaw_144 k6 Q l1 μ2)))
set_option maxRecDepth 100000 in
set_option maxHeartbeats 4000000 in
theorem jcX12_readLaw_133 {k6 k6' k6'' : Int32 → km_S → Prop} (hk6 : ∀ y0 y1, k6 y0 y1 → k6' y0 y1 → k6'' y0 y1) {Q Q' Q'' : km_S → Prop} (hQ : ∀ y0, Q y0 → Q' y0 → Q'' y0) : ∀ (l1 : Int32) (μ : km_S), wX12_readLaw_133 k6 Q l1 μ → vX12_readLaw_133 k6' Q' l1 μ → wX12_readLaw_133 k6'' Q'' l1 μ := by
  intro l1 μ h v
  unfold wX12_readLaw_133 at h
  unfold vX12_readLaw_133 at v
  unfold wX12_readLaw_133
  refine ⟨?_, ?_⟩
  · have h := h.1
    have v := v.1
    intro e1
    have h := h e1
    have v := v e1
    exact jcX12_readLaw_144 hk6 hQ _ _ h v
  · have h := h.2
    have v := v.2
    intro e2
    have h := h e2
    have v := v e2
    refine jcX12_step ?_ _ h v
    intro μ2 h v
    exact jcX12_readLaw_144 hk6 hQ _ _ h v
set_option maxRecDepth 100000 in
set_option maxHeartbeats 4000000 in
theorem jaX12_readLaw_133 {k6 k6' : Int32 → km_S → Prop} (hk6 : ∀ y0 y1, k6 y0 y1 → k6' y0 y1) {Q Q' : km_S → Prop} (hQ : ∀ y0, Q y0 → Q' y0) : ∀ (l1 : Int32) (μ : km_S), wX12_readLaw_133 k6 Q l1 μ → vX12_readLaw_133 k6' Q' l1 μ := by
  intro l1 μ h
  unfold wX12_readLaw_133 at h
  unfold vX12_readLaw_133
  refine ⟨?_, ?_⟩
  · have h := h.1
    intro e1
    have h := h e1
    exact jaX12_readLaw_144 hk6 hQ _ _ h
  · have h := h.2
    intro e2
    have h := h e2
    refine jaX12_step ?_ _ h
    intro μ2 h
    exact jaX12_readLaw_144 hk6 hQ _ _ h
set_option maxRecDepth 100000 in
set_option maxHeartbeats 4000000 in
theorem jfX12_readLaw_133 {I : km_S → Prop} (W : gw_ I [60, 62, 63, 64, 65]) {k6 : Int32 → km_S → Prop} (hk6 : ∀ y0 y1, I y1 → k6 y0 y1) {Q : km_S → Prop} (hQ : ∀ y0, I y0 → Q y0) : ∀ (l1 : Int32) (μ : km_S), I μ → vX12_readLaw_133 k6 Q l1 μ := by
  intro l1 μ i
  unfold vX12_readLaw_133
  refine ⟨?_, ?_⟩
  · intro e1
    exact jfX12_readLaw_144 (I := I) (gw_sub W (by decide)) hk6 hQ _ _ i
  · intro e2
    refine jfX12_step (I := I) (gw_sub W (by decide)) ?_ _ i
    intro μ2 iμ2
    exact jfX12_readLaw_144 (I := I) (gw_sub W (by decide)) hk6 hQ _ _ iμ2
def vX12_readLaw_48 (k59 : Int32 → Int32 → km_S → Prop) (Q : km_S → Prop) (l1 : Int32) (l2 : Int32) (μ : km_S) : Prop := ((¬ l1 = 12 → k59 l1 l2 μ) ∧ (l1 = 12 → vX12_wrong 2 μ (fun μ4 => k59 l1 l2 μ4)))
set_option maxRecDepth 100000 in
set_option maxHeartbeats 4000000 in
theorem jcX12_readLaw_48 {k59 k59' k59'' : Int32 → Int32 → km_S → Prop} (hk59 : ∀ y0 y1 y2, k59 y0 y1 y2 → k59' y0 y1 y2 → k59'' y0 y1 y2) {Q Q' Q'' : km_S → Prop} (hQ : ∀ y0, Q y0 → Q' y0 → Q'' y0) : ∀ (l1 : Int32) (l2 : Int32) (μ : km_S), wX12_readLaw_48 k59 Q l1 l2 μ → vX12_readLaw_48 k59' Q' l1 l2 μ → wX12_readLaw_48 k59'' Q'' l1 l2 μ := by
  intro l1 l2 μ h v
  unfold wX12_readLaw_48 at h
  unfold vX12_readLaw_48 at v
  unfold wX12_readLaw_48
  refine ⟨?_, ?_⟩
  · have h := h.1
    have v := v.1
    intro e1
    have h := h e1
    have v := v e1
    exact hk59 _ _ _ h v
  · have h := h.2
    have v := v.2
    intro e2
    have h := h e2
    have v := v e2
    refine jcX12_wrong ?_ _ _ h v
    intro μ4 h v
    exact hk59 _ _ _ h v
set_option maxRecDepth 100000 in
set_option maxHeartbeats 4000000 in
theorem jaX12_readLaw_48 {k59 k59' : Int32 → Int32 → km_S → Prop} (hk59 : ∀ y0 y1 y2, k59 y0 y1 y2 → k59' y0 y1 y2) {Q Q' : km_S → Prop} (hQ : ∀ y0, Q y0 → Q' y0) : ∀ (l1 : Int32) (l2 : Int32) (μ : km_S), wX12_readLaw_48 k59 Q l1 l2 μ → vX12_readLaw_48 k59' Q' l1 l2 μ := by
  intro l1 l2 μ h
  unfold wX12_readLaw_48 at h
  unfold vX12_readLaw_48
  refine ⟨?_, ?_⟩
  · have h := h.1
    intro e1
    have h := h e1
    exact hk59 _ _ _ h
  · have h := h.2
    intro e2
    have h := h e2
    refine jaX12_wrong ?_ _ _ h
    intro μ4 h
    exact hk59 _ _ _ h
set_option maxRecDepth 100000 in
set_option maxHeartbeats 4000000 in
theorem jfX12_readLaw_48 {I : km_S → Prop} (W : gw_ I [66, 67]) {k59 : Int32 → Int32 → km_S → Prop} (hk59 : ∀ y0 y1 y2, I y2 → k59 y0 y1 y2) {Q : km_S → Prop} (hQ : ∀ y0, I y0 → Q y0) : ∀ (l1 : Int32) (l2 : Int32) (μ : km_S), I μ → vX12_readLaw_48 k59 Q l1 l2 μ := by
  intro l1 l2 μ i
  unfold vX12_readLaw_48
  refine ⟨?_, ?_⟩
  · intro e1
    exact hk59 _ _ _ i
  · intro e2
    refine jfX12_wrong (I := I) (gw_sub W (by decide)) ?_ _ _ i
    intro μ4 iμ4
    exact hk59 _ _ _ iμ4
def vX12_readLaw_147 (Q : km_S → Prop) (l1 : Int32) (μ : km_S) : Prop := vp_in ((13 * (km_i μ 5)) + l1) 78 → ∀ μ6, μ6 = km_sa μ 55 ((13 * (km_i μ 5)) + l1).toNatClampNeg (km_i μ 59) → vp_in (km_i μ6 5) 6 → ∀ μ8, μ8 = km_sa μ6 54 (km_i μ6 5).toNatClampNeg l1 → Q μ8
set_option maxRecDepth 100000 in
set_option maxHeartbeats 4000000 in
theorem jcX12_readLaw_147 {Q Q' Q'' : km_S → Prop} (hQ : ∀ y0, Q y0 → Q' y0 → Q'' y0) : ∀ (l1 : Int32) (μ : km_S), wX12_readLaw_147 Q l1 μ → vX12_readLaw_147 Q' l1 μ → wX12_readLaw_147 Q'' l1 μ := by
  intro l1 μ h v
  unfold wX12_readLaw_147 at h
  unfold vX12_readLaw_147 at v
  unfold wX12_readLaw_147
  refine ⟨h.1, ?_⟩
  have v := v h.1
  have h := h.2
  intro μ6 e2
  have h := h μ6 e2
  have v := v μ6 e2
  refine ⟨h.1, ?_⟩
  have v := v h.1
  have h := h.2
  intro μ8 e4
  have h := h μ8 e4
  have v := v μ8 e4
  exact hQ _ h v
set_option maxRecDepth 100000 in
set_option maxHeartbeats 4000000 in
theorem jaX12_readLaw_147 {Q Q' : km_S → Prop} (hQ : ∀ y0, Q y0 → Q' y0) : ∀ (l1 : Int32) (μ : km_S), wX12_readLaw_147 Q l1 μ → vX12_readLaw_147 Q' l1 μ := by
  intro l1 μ h
  unfold wX12_readLaw_147 at h
  unfold vX12_readLaw_147
  intro e1
  have h := h.2
  intro μ6 e2
  have h := h μ6 e2
  intro e3
  have h := h.2
  intro μ8 e4
  have h := h μ8 e4
  exact hQ _ h
set_option maxRecDepth 100000 in
set_option maxHeartbeats 4000000 in
theorem jfX12_readLaw_147 {I : km_S → Prop} (W : gw_ I [54, 55]) {Q : km_S → Prop} (hQ : ∀ y0, I y0 → Q y0) : ∀ (l1 : Int32) (μ : km_S), I μ → vX12_readLaw_147 Q l1 μ := by
  intro l1 μ i
  unfold vX12_readLaw_147
  intro e1
  intro μ6 e2
  have iμ6 : I μ6 := by rw [e2]; exact ((W _ i) 55 (by decide)).2.1 _ _
  intro e3
  intro μ8 e4
  have iμ8 : I μ8 := by rw [e4]; exact ((W _ iμ6) 54 (by decide)).2.1 _ _
  exact hQ _ iμ8
def vX12_readLaw_59 (k6 : Int32 → km_S → Prop) (Q : km_S → Prop) (l1 : Int32) (l2 : Int32) (μ : km_S) : Prop := (((km_i μ 66) = 0 → vp_in ((12 * (km_i μ 5)) + l1) 72 → ∀ μ11, μ11 = km_sa μ 58 ((12 * (km_i μ 5)) + l1).toNatClampNeg (vp_nar .boolean l2) → vp_in ((13 * (km_i μ11 5)) + l1) 78 → ∀ μ13, μ13 = km_sa μ11 55 ((13 * (km_i μ11 5)) + l1).toNatClampNeg (km_i μ11 59) → ∀ v14 : Int32, v14 = l1 + 1 → vX12_step μ13 (fun μ15 => vX12_readExpression 10 0 μ15 (fun μ16 => ((¬ (km_i μ16 66) = 0 → vX12_readLaw_133 k6 Q v14 μ16) ∧ ((km_i μ16 66) = 0 → vX12_isSign 59 μ16 (fun r19 μ18 => ((¬ r19 = 0 → vX12_readLaw_133 k6 Q v14 μ18) ∧ (r19 = 0 → vX12_wrong 1 μ18 (fun μ21 => vX12_readLaw_133 k6 Q v14 μ21))))))))) ∧ (¬ ((km_i μ 66) = 0) → Q μ))
set_option maxRecDepth 100000 in
set_option maxHeartbeats 4000000 in
theorem jcX12_readLaw_59 {k6 k6' k6'' : Int32 → km_S → Prop} (hk6 : ∀ y0 y1, k6 y0 y1 → k6' y0 y1 → k6'' y0 y1) {Q Q' Q'' : km_S → Prop} (hQ : ∀ y0, Q y0 → Q' y0 → Q'' y0) : ∀ (l1 : Int32) (l2 : Int32) (μ : km_S), wX12_readLaw_59 k6 Q l1 l2 μ → vX12_readLaw_59 k6' Q' l1 l2 μ → wX12_readLaw_59 k6'' Q'' l1 l2 μ := by
  intro l1 l2 μ h v
  unfold wX12_readLaw_59 at h
  unfold vX12_readLaw_59 at v
  unfold wX12_readLaw_59
  refine ⟨?_, ?_⟩
  · have h := h.1
    have v := v.1
    intro e1
    have h := h e1
    have v := v e1
    refine ⟨h.1, ?_⟩
    have v := v h.1
    have h := h.2
    intro μ11 e3
    have h := h μ11 e3
    have v := v μ11 e3
    refine ⟨h.1, ?_⟩
    have v := v h.1
    have h := h.2
    intro μ13 e5
    have h := h μ13 e5
    have v := v μ13 e5
    intro v14 e6
    have h := h v14 e6
    have v := v v14 e6
    refine jcX12_step ?_ _ h v
    intro μ15 h v
    refine jcX12_readExpression ?_ _ _ _ h v
    intro μ16 h v
    refine ⟨?_, ?_⟩
    · have h := h.1
      have v := v.1
      intro e7
      have h := h e7
      have v := v e7
      exact jcX12_readLaw_133 hk6 hQ _ _ h v
    · have h := h.2
      have v := v.2
      intro e8
      have h := h e8
      have v := v e8
      refine jcX12_isSign ?_ _ _ h v
      intro r19 μ18 h v
      refine ⟨?_, ?_⟩
      · have h := h.1
        have v := v.1
        intro e9
        have h := h e9
        have v := v e9
        exact jcX12_readLaw_133 hk6 hQ _ _ h v
      · have h := h.2
        have v := v.2
        intro e10
        have h := h e10
        have v := v e10
        refine jcX12_wrong ?_ _ _ h v
        intro μ21 h v
        exact jcX12_readLaw_133 hk6 hQ _ _ h v
  · have h := h.2
    have v := v.2
    intro e11
    have h := h e11
    have v := v e11
    exact hQ _ h v
set_option maxRecDepth 100000 in
set_option maxHeartbeats 4000000 in
theorem jaX12_readLaw_59 {k6 k6' : Int32 → km_S → Prop} (hk6 : ∀ y0 y1, k6 y0 y1 → k6' y0 y1) {Q Q' : km_S → Prop} (hQ : ∀ y0, Q y0 → Q' y0) : ∀ (l1 : Int32) (l2 : Int32) (μ : km_S), wX12_readLaw_59 k6 Q l1 l2 μ → vX12_readLaw_59 k6' Q' l1 l2 μ := by
  intro l1 l2 μ h
  unfold wX12_readLaw_59 at h
  unfold vX12_readLaw_59
  refine ⟨?_, ?_⟩
  · have h := h.1
    intro e1
    have h := h e1
    intro e2
    have h := h.2
    intro μ11 e3
    have h := h μ11 e3
    intro e4
    have h := h.2
    intro μ13 e5
    have h := h μ13 e5
    intro v14 e6
    have h := h v14 e6
    refine jaX12_step ?_ _ h
    intro μ15 h
    refine jaX12_readExpression ?_ _ _ _ h
    intro μ16 h
    refine ⟨?_, ?_⟩
    · have h := h.1
      intro e7
      have h := h e7
      exact jaX12_readLaw_133 hk6 hQ _ _ h
    · have h := h.2
      intro e8
      have h := h e8
      refine jaX12_isSign ?_ _ _ h
      intro r19 μ18 h
      refine ⟨?_, ?_⟩
      · have h := h.1
        intro e9
        have h := h e9
        exact jaX12_readLaw_133 hk6 hQ _ _ h
      · have h := h.2
        intro e10
        have h := h e10
        refine jaX12_wrong ?_ _ _ h
        intro μ21 h
        exact jaX12_readLaw_133 hk6 hQ _ _ h
  · have h := h.2
    intro e11
    have h := h e11
    exact hQ _ h
set_option maxRecDepth 100000 in
set_option maxHeartbeats 4000000 in
theorem jfX12_readLaw_59 {I : km_S → Prop} (W : gw_ I [55, 56, 58, 59, 60, 62, 63, 64, 65, 66, 67]) {k6 : Int32 → km_S → Prop} (hk6 : ∀ y0 y1, I y1 → k6 y0 y1) {Q : km_S → Prop} (hQ : ∀ y0, I y0 → Q y0) : ∀ (l1 : Int32) (l2 : Int32) (μ : km_S), I μ → vX12_readLaw_59 k6 Q l1 l2 μ := by
  intro l1 l2 μ i
  unfold vX12_readLaw_59
  refine ⟨?_, ?_⟩
  · intro e1
    intro e2
    intro μ11 e3
    have iμ11 : I μ11 := by rw [e3]; exact ((W _ i) 58 (by decide)).2.1 _ _
    intro e4
    intro μ13 e5
    have iμ13 : I μ13 := by rw [e5]; exact ((W _ iμ11) 55 (by decide)).2.1 _ _
    intro v14 e6
    refine jfX12_step (I := I) (gw_sub W (by decide)) ?_ _ iμ13
    intro μ15 iμ15
    refine jfX12_readExpression (I := I) (gw_sub W (by decide)) ?_ _ _ _ iμ15
    intro μ16 iμ16
    refine ⟨?_, ?_⟩
    · intro e7
      exact jfX12_readLaw_133 (I := I) (gw_sub W (by decide)) hk6 hQ _ _ iμ16
    · intro e8
      refine jfX12_isSign (I := I) (gw_sub W (by decide)) ?_ _ _ iμ16
      intro r19 μ18 iμ18
      refine ⟨?_, ?_⟩
      · intro e9
        exact jfX12_readLaw_133 (I := I) (gw_sub W (by decide)) hk6 hQ _ _ iμ18
      · intro e10
        refine jfX12_wrong (I := I) (gw_sub W (by decide)) ?_ _ _ iμ18
        intro μ21 iμ21
        exact jfX12_readLaw_133 (I := I) (gw_sub W (by decide)) hk6 hQ _ _ iμ21
  · intro e11
    exact hQ _ i
def vX12_readLaw_6 (k147 : Int32 → km_S → Prop) (Q : km_S → Prop) : Nat → Int32 → km_S → Prop
  | 0, _, _ => True
  | n + 1, l1, μ => ((¬ (km_i μ 66) = 0 → k147 l1 μ) ∧ ((km_i μ 66) = 0 → (((km_i μ 62) = 0 → k147 l1 μ) ∧ (¬ ((km_i μ 62) = 0) → vX12_isWord 7 μ (fun r25 μ24 => ((¬ r25 = 0 → vX12_readLaw_48 (vX12_readLaw_59 (vX12_readLaw_6 k147 Q n) Q) Q l1 r25 μ24) ∧ (r25 = 0 → vX12_isWord 8 μ24 (fun r28 μ27 => ((¬ r28 = 0 → vX12_readLaw_48 (vX12_readLaw_59 (vX12_readLaw_6 k147 Q n) Q) Q l1 r25 μ27) ∧ (r28 = 0 → vX12_wrong 1 μ27 (fun μ30 => vX12_readLaw_59 (vX12_readLaw_6 k147 Q n) Q l1 r25 μ30)))))))))))
set_option maxRecDepth 100000 in
set_option maxHeartbeats 4000000 in
theorem jcX12_readLaw_6 {k147 k147' k147'' : Int32 → km_S → Prop} (hk147 : ∀ y0 y1, k147 y0 y1 → k147' y0 y1 → k147'' y0 y1) {Q Q' Q'' : km_S → Prop} (hQ : ∀ y0, Q y0 → Q' y0 → Q'' y0) : ∀ (n : Nat) (l1 : Int32) (μ : km_S), wX12_readLaw_6 k147 Q n l1 μ → vX12_readLaw_6 k147' Q' n l1 μ → wX12_readLaw_6 k147'' Q'' n l1 μ := by
  intro n
  induction n with
  | zero => intro l1 μ h; exact h.elim
  | succ n ih =>
    intro l1 μ h v
    unfold wX12_readLaw_6 at h
    unfold vX12_readLaw_6 at v
    unfold wX12_readLaw_6
    refine ⟨?_, ?_⟩
    · have h := h.1
      have v := v.1
      intro e1
      have h := h e1
      have v := v e1
      exact hk147 _ _ h v
    · have h := h.2
      have v := v.2
      intro e2
      have h := h e2
      have v := v e2
      refine ⟨?_, ?_⟩
      · have h := h.1
        have v := v.1
        intro e3
        have h := h e3
        have v := v e3
        exact hk147 _ _ h v
      · have h := h.2
        have v := v.2
        intro e4
        have h := h e4
        have v := v e4
        refine jcX12_isWord ?_ _ _ h v
        intro r25 μ24 h v
        refine ⟨?_, ?_⟩
        · have h := h.1
          have v := v.1
          intro e5
          have h := h e5
          have v := v e5
          exact jcX12_readLaw_48 (k59 := wX12_readLaw_59 (wX12_readLaw_6 k147 Q n) Q) (k59' := vX12_readLaw_59 (vX12_readLaw_6 k147' Q' n) Q') (k59'' := wX12_readLaw_59 (wX12_readLaw_6 k147'' Q'' n) Q'') (fun _ _ _ h v => jcX12_readLaw_59 (k6 := wX12_readLaw_6 k147 Q n) (k6' := vX12_readLaw_6 k147' Q' n) (k6'' := wX12_readLaw_6 k147'' Q'' n) (fun _ _ h v => ih _ _ h v) hQ _ _ _ h v) hQ _ _ _ h v
        · have h := h.2
          have v := v.2
          intro e6
          have h := h e6
          have v := v e6
          refine jcX12_isWord ?_ _ _ h v
          intro r28 μ27 h v
          refine ⟨?_, ?_⟩
          · have h := h.1
            have v := v.1
            intro e7
            have h := h e7
            have v := v e7
            exact jcX12_readLaw_48 (k59 := wX12_readLaw_59 (wX12_readLaw_6 k147 Q n) Q) (k59' := vX12_readLaw_59 (vX12_readLaw_6 k147' Q' n) Q') (k59'' := wX12_readLaw_59 (wX12_readLaw_6 k147'' Q'' n) Q'') (fun _ _ _ h v => jcX12_readLaw_59 (k6 := wX12_readLaw_6 k147 Q n) (k6' := vX12_readLaw_6 k147' Q' n) (k6'' := wX12_readLaw_6 k147'' Q'' n) (fun _ _ h v => ih _ _ h v) hQ _ _ _ h v) hQ _ _ _ h v
          · have h := h.2
            have v := v.2
            intro e8
            have h := h e8
            have v := v e8
            refine jcX12_wrong ?_ _ _ h v
            intro μ30 h v
            exact jcX12_readLaw_59 (k6 := wX12_readLaw_6 k147 Q n) (k6' := vX12_readLaw_6 k147' Q' n) (k6'' := wX12_readLaw_6 k147'' Q'' n) (fun _ _ h v => ih _ _ h v) hQ _ _ _ h v
set_option maxRecDepth 100000 in
set_option maxHeartbeats 4000000 in
theorem jaX12_readLaw_6 {k147 k147' : Int32 → km_S → Prop} (hk147 : ∀ y0 y1, k147 y0 y1 → k147' y0 y1) {Q Q' : km_S → Prop} (hQ : ∀ y0, Q y0 → Q' y0) : ∀ (n m : Nat) (l1 : Int32) (μ : km_S), wX12_readLaw_6 k147 Q n l1 μ → vX12_readLaw_6 k147' Q' m l1 μ := by
  intro n
  induction n with
  | zero => intro m l1 μ h; exact h.elim
  | succ n ih =>
    intro m l1 μ h
    cases m with
    | zero => exact trivial
    | succ m =>
      unfold wX12_readLaw_6 at h
      unfold vX12_readLaw_6
      refine ⟨?_, ?_⟩
      · have h := h.1
        intro e1
        have h := h e1
        exact hk147 _ _ h
      · have h := h.2
        intro e2
        have h := h e2
        refine ⟨?_, ?_⟩
        · have h := h.1
          intro e3
          have h := h e3
          exact hk147 _ _ h
        · have h := h.2
          intro e4
          have h := h e4
          refine jaX12_isWord ?_ _ _ h
          intro r25 μ24 h
          refine ⟨?_, ?_⟩
          · have h := h.1
            intro e5
            have h := h e5
            exact jaX12_readLaw_48 (k59 := wX12_readLaw_59 (wX12_readLaw_6 k147 Q n) Q) (k59' := vX12_readLaw_59 (vX12_readLaw_6 k147' Q' m) Q') (fun _ _ _ h => jaX12_readLaw_59 (k6 := wX12_readLaw_6 k147 Q n) (k6' := vX12_readLaw_6 k147' Q' m) (fun _ _ h => ih m _ _ h) hQ _ _ _ h) hQ _ _ _ h
          · have h := h.2
            intro e6
            have h := h e6
            refine jaX12_isWord ?_ _ _ h
            intro r28 μ27 h
            refine ⟨?_, ?_⟩
            · have h := h.1
              intro e7
              have h := h e7
              exact jaX12_readLaw_48 (k59 := wX12_readLaw_59 (wX12_readLaw_6 k147 Q n) Q) (k59' := vX12_readLaw_59 (vX12_readLaw_6 k147' Q' m) Q') (fun _ _ _ h => jaX12_readLaw_59 (k6 := wX12_readLaw_6 k147 Q n) (k6' := vX12_readLaw_6 k147' Q' m) (fun _ _ h => ih m _ _ h) hQ _ _ _ h) hQ _ _ _ h
            · have h := h.2
              intro e8
              have h := h e8
              refine jaX12_wrong ?_ _ _ h
              intro μ30 h
              exact jaX12_readLaw_59 (k6 := wX12_readLaw_6 k147 Q n) (k6' := vX12_readLaw_6 k147' Q' m) (fun _ _ h => ih m _ _ h) hQ _ _ _ h
set_option maxRecDepth 100000 in
set_option maxHeartbeats 4000000 in
theorem jfX12_readLaw_6 {I : km_S → Prop} (W : gw_ I [55, 56, 58, 59, 60, 62, 63, 64, 65, 66, 67]) {k147 : Int32 → km_S → Prop} (hk147 : ∀ y0 y1, I y1 → k147 y0 y1) {Q : km_S → Prop} (hQ : ∀ y0, I y0 → Q y0) : ∀ (n : Nat) (l1 : Int32) (μ : km_S), I μ → vX12_readLaw_6 k147 Q n l1 μ := by
  intro n
  induction n with
  | zero => intro l1 μ i; exact trivial
  | succ n ih =>
    intro l1 μ i
    unfold vX12_readLaw_6
    refine ⟨?_, ?_⟩
    · intro e1
      exact hk147 _ _ i
    · intro e2
      refine ⟨?_, ?_⟩
      · intro e3
        exact hk147 _ _ i
      · intro e4
        refine jfX12_isWord (I := I) (gw_sub W (by decide)) ?_ _ _ i
        intro r25 μ24 iμ24
        refine ⟨?_, ?_⟩
        · intro e5
          exact jfX12_readLaw_48 (I := I) (gw_sub W (by decide)) (k59 := vX12_readLaw_59 (vX12_readLaw_6 k147 Q n) Q) (fun _ _ _ i => jfX12_readLaw_59 (I := I) (gw_sub W (by decide)) (k6 := vX12_readLaw_6 k147 Q n) (fun _ _ i => ih _ _ i) hQ _ _ _ i) hQ _ _ _ iμ24
        · intro e6
          refine jfX12_isWord (I := I) (gw_sub W (by decide)) ?_ _ _ iμ24
          intro r28 μ27 iμ27
          refine ⟨?_, ?_⟩
          · intro e7
            exact jfX12_readLaw_48 (I := I) (gw_sub W (by decide)) (k59 := vX12_readLaw_59 (vX12_readLaw_6 k147 Q n) Q) (fun _ _ _ i => jfX12_readLaw_59 (I := I) (gw_sub W (by decide)) (k6 := vX12_readLaw_6 k147 Q n) (fun _ _ i => ih _ _ i) hQ _ _ _ i) hQ _ _ _ iμ27
          · intro e8
            refine jfX12_wrong (I := I) (gw_sub W (by decide)) ?_ _ _ iμ27
            intro μ30 iμ30
            exact jfX12_readLaw_59 (I := I) (gw_sub W (by decide)) (k6 := vX12_readLaw_6 k147 Q n) (fun _ _ i => ih _ _ i) hQ _ _ _ iμ30
def vX12_readLaw (μ : km_S) (Q : km_S → Prop) : Prop := vX12_step μ (fun μ31 => ∀ j, vX12_readLaw_6 (vX12_readLaw_147 Q) Q j 0 μ31)
set_option maxRecDepth 100000 in
set_option maxHeartbeats 4000000 in
theorem jcX12_readLaw {Q Q' Q'' : km_S → Prop} (hQ : ∀ y0, Q y0 → Q' y0 → Q'' y0) : ∀ (μ : km_S), wX12_readLaw μ Q → vX12_readLaw μ Q' → wX12_readLaw μ Q'' := by
  intro μ h v
  unfold wX12_readLaw at h
  unfold vX12_readLaw at v
  unfold wX12_readLaw
  refine jcX12_step ?_ _ h v
  intro μ31 h v
  obtain ⟨j, h⟩ := h
  refine ⟨j, ?_⟩
  have v := v j
  exact jcX12_readLaw_6 (k147 := wX12_readLaw_147 Q) (k147' := vX12_readLaw_147 Q') (k147'' := wX12_readLaw_147 Q'') (fun _ _ h v => jcX12_readLaw_147 hQ _ _ h v) hQ _ _ _ h v
set_option maxRecDepth 100000 in
set_option maxHeartbeats 4000000 in
theorem jaX12_readLaw {Q Q' : km_S → Prop} (hQ : ∀ y0, Q y0 → Q' y0) : ∀ (μ : km_S), wX12_readLaw μ Q → vX12_readLaw μ Q' := by
  intro μ h
  unfold wX12_readLaw at h
  unfold vX12_readLaw
  refine jaX12_step ?_ _ h
  intro μ31 h
  obtain ⟨j, h⟩ := h
  intro j9
  exact jaX12_readLaw_6 (k147 := wX12_readLaw_147 Q) (k147' := vX12_readLaw_147 Q') (fun _ _ h => jaX12_readLaw_147 hQ _ _ h) hQ _ j9 _ _ h
set_option maxRecDepth 100000 in
set_option maxHeartbeats 4000000 in
theorem jfX12_readLaw {I : km_S → Prop} (W : gw_ I [54, 55, 56, 58, 59, 60, 62, 63, 64, 65, 66, 67]) {Q : km_S → Prop} (hQ : ∀ y0, I y0 → Q y0) : ∀ (μ : km_S), I μ → vX12_readLaw μ Q := by
  intro μ i
  unfold vX12_readLaw
  refine jfX12_step (I := I) (gw_sub W (by decide)) ?_ _ i
  intro μ31 iμ31
  intro j
  exact jfX12_readLaw_6 (I := I) (gw_sub W (by decide)) (k147 := vX12_readLaw_147 Q) (fun _ _ i => jfX12_readLaw_147 (I := I) (gw_sub W (by decide)) hQ _ _ i) hQ _ _ _ iμ31
def vX12_law_28 (Q : Int32 → km_S → Prop) (μ : km_S) : Prop := vX12_fail μ (fun r2 μ1 => Q r2 μ1)
set_option maxRecDepth 100000 in
set_option maxHeartbeats 4000000 in
theorem jcX12_law_28 {Q Q' Q'' : Int32 → km_S → Prop} (hQ : ∀ y0 y1, Q y0 y1 → Q' y0 y1 → Q'' y0 y1) : ∀ (μ : km_S), wX12_law_28 Q μ → vX12_law_28 Q' μ → wX12_law_28 Q'' μ := by
  intro μ h v
  unfold wX12_law_28 at h
  unfold vX12_law_28 at v
  unfold wX12_law_28
  refine jcX12_fail ?_ _ h v
  intro r2 μ1 h v
  exact hQ _ _ h v
set_option maxRecDepth 100000 in
set_option maxHeartbeats 4000000 in
theorem jaX12_law_28 {Q Q' : Int32 → km_S → Prop} (hQ : ∀ y0 y1, Q y0 y1 → Q' y0 y1) : ∀ (μ : km_S), wX12_law_28 Q μ → vX12_law_28 Q' μ := by
  intro μ h
  unfold wX12_law_28 at h
  unfold vX12_law_28
  refine jaX12_fail ?_ _ h
  intro r2 μ1 h
  exact hQ _ _ h
set_option maxRecDepth 100000 in
set_option maxHeartbeats 4000000 in
theorem jfX12_law_28 {I : km_S → Prop} (W : gw_ I [1]) {Q : Int32 → km_S → Prop} (hQ : ∀ y0 y1, I y1 → Q y0 y1) : ∀ (μ : km_S), I μ → vX12_law_28 Q μ := by
  intro μ i
  unfold vX12_law_28
  refine jfX12_fail (I := I) (gw_sub W (by decide)) ?_ _ i
  intro r2 μ1 iμ1
  exact hQ _ _ iμ1
def vX12_law (l1 : Int32) (l2 : Int32) (μ : km_S) (Q : Int32 → km_S → Prop) : Prop := ∀ μ3, μ3 = km_si μ 1 0 → ((l1 < 0 → vX12_law_28 Q μ3) ∧ (¬ (l1 < 0) → (((km_i μ3 9) < l1 → vX12_law_28 Q μ3) ∧ (¬ ((km_i μ3 9) < l1) → ((l2 < 0 → vX12_law_28 Q μ3) ∧ (¬ (l2 < 0) → ((l2 ≤ 1000 → ∀ μ8, μ8 = km_si μ3 9 0 → ∀ μ9, μ9 = km_si μ8 10 (-1) → ((¬ (km_i μ9 5) = 6 → ∀ μ11, μ11 = km_si μ9 61 l1 → ∀ μ12, μ12 = km_si μ11 60 0 → ∀ μ13, μ13 = km_si μ12 66 0 → ∀ μ14, μ14 = km_si μ13 59 0 → vX12_readLaw μ14 (fun μ15 => (((km_i μ15 66) = 0 → vp_in (km_i μ15 5) 6 → ∀ μ18, μ18 = km_sa μ15 53 (km_i μ15 5).toNatClampNeg l2 → ∀ μ19, μ19 = km_si μ18 5 ((km_i μ18 5) + 1) → Q ((km_i μ19 5) - 1) μ19) ∧ (¬ ((km_i μ15 66) = 0) → ∀ μ20, μ20 = km_si μ15 10 (km_i μ15 67) → Q ((-1) - (km_i μ20 66)) μ20)))) ∧ ((km_i μ9 5) = 6 → Q (-9) μ9))) ∧ (¬ (l2 ≤ 1000) → vX12_law_28 Q μ3))))))))
set_option maxRecDepth 100000 in
set_option maxHeartbeats 4000000 in
theorem jcX12_law {Q Q' Q'' : Int32 → km_S → Prop} (hQ : ∀ y0 y1, Q y0 y1 → Q' y0 y1 → Q'' y0 y1) : ∀ (l1 : Int32) (l2 : Int32) (μ : km_S), wX12_law l1 l2 μ Q → vX12_law l1 l2 μ Q' → wX12_law l1 l2 μ Q'' := by
  intro l1 l2 μ h v
  unfold wX12_law at h
  unfold vX12_law at v
  unfold wX12_law
  intro μ3 e1
  have h := h μ3 e1
  have v := v μ3 e1
  refine ⟨?_, ?_⟩
  · have h := h.1
    have v := v.1
    intro e2
    have h := h e2
    have v := v e2
    exact jcX12_law_28 hQ _ h v
  · have h := h.2
    have v := v.2
    intro e3
    have h := h e3
    have v := v e3
    refine ⟨?_, ?_⟩
    · have h := h.1
      have v := v.1
      intro e4
      have h := h e4
      have v := v e4
      exact jcX12_law_28 hQ _ h v
    · have h := h.2
      have v := v.2
      intro e5
      have h := h e5
      have v := v e5
      refine ⟨?_, ?_⟩
      · have h := h.1
        have v := v.1
        intro e6
        have h := h e6
        have v := v e6
        exact jcX12_law_28 hQ _ h v
      · have h := h.2
        have v := v.2
        intro e7
        have h := h e7
        have v := v e7
        refine ⟨?_, ?_⟩
        · have h := h.1
          have v := v.1
          intro e8
          have h := h e8
          have v := v e8
          intro μ8 e9
          have h := h μ8 e9
          have v := v μ8 e9
          intro μ9 e10
          have h := h μ9 e10
          have v := v μ9 e10
          refine ⟨?_, ?_⟩
          · have h := h.1
            have v := v.1
            intro e11
            have h := h e11
            have v := v e11
            intro μ11 e12
            have h := h μ11 e12
            have v := v μ11 e12
            intro μ12 e13
            have h := h μ12 e13
            have v := v μ12 e13
            intro μ13 e14
            have h := h μ13 e14
            have v := v μ13 e14
            intro μ14 e15
            have h := h μ14 e15
            have v := v μ14 e15
            refine jcX12_readLaw ?_ _ h v
            intro μ15 h v
            refine ⟨?_, ?_⟩
            · have h := h.1
              have v := v.1
              intro e16
              have h := h e16
              have v := v e16
              refine ⟨h.1, ?_⟩
              have v := v h.1
              have h := h.2
              intro μ18 e18
              have h := h μ18 e18
              have v := v μ18 e18
              intro μ19 e19
              have h := h μ19 e19
              have v := v μ19 e19
              exact hQ _ _ h v
            · have h := h.2
              have v := v.2
              intro e20
              have h := h e20
              have v := v e20
              intro μ20 e21
              have h := h μ20 e21
              have v := v μ20 e21
              exact hQ _ _ h v
          · have h := h.2
            have v := v.2
            intro e22
            have h := h e22
            have v := v e22
            exact hQ _ _ h v
        · have h := h.2
          have v := v.2
          intro e23
          have h := h e23
          have v := v e23
          exact jcX12_law_28 hQ _ h v
set_option maxRecDepth 100000 in
set_option maxHeartbeats 4000000 in
theorem jaX12_law {Q Q' : Int32 → km_S → Prop} (hQ : ∀ y0 y1, Q y0 y1 → Q' y0 y1) : ∀ (l1 : Int32) (l2 : Int32) (μ : km_S), wX12_law l1 l2 μ Q → vX12_law l1 l2 μ Q' := by
  intro l1 l2 μ h
  unfold wX12_law at h
  unfold vX12_law
  intro μ3 e1
  have h := h μ3 e1
  refine ⟨?_, ?_⟩
  · have h := h.1
    intro e2
    have h := h e2
    exact jaX12_law_28 hQ _ h
  · have h := h.2
    intro e3
    have h := h e3
    refine ⟨?_, ?_⟩
    · have h := h.1
      intro e4
      have h := h e4
      exact jaX12_law_28 hQ _ h
    · have h := h.2
      intro e5
      have h := h e5
      refine ⟨?_, ?_⟩
      · have h := h.1
        intro e6
        have h := h e6
        exact jaX12_law_28 hQ _ h
      · have h := h.2
        intro e7
        have h := h e7
        refine ⟨?_, ?_⟩
        · have h := h.1
          intro e8
          have h := h e8
          intro μ8 e9
          have h := h μ8 e9
          intro μ9 e10
          have h := h μ9 e10
          refine ⟨?_, ?_⟩
          · have h := h.1
            intro e11
            have h := h e11
            intro μ11 e12
            have h := h μ11 e12
            intro μ12 e13
            have h := h μ12 e13
            intro μ13 e14
            have h := h μ13 e14
            intro μ14 e15
            have h := h μ14 e15
            refine jaX12_readLaw ?_ _ h
            intro μ15 h
            refine ⟨?_, ?_⟩
            · have h := h.1
              intro e16
              have h := h e16
              intro e17
              have h := h.2
              intro μ18 e18
              have h := h μ18 e18
              intro μ19 e19
              have h := h μ19 e19
              exact hQ _ _ h
            · have h := h.2
              intro e20
              have h := h e20
              intro μ20 e21
              have h := h μ20 e21
              exact hQ _ _ h
          · have h := h.2
            intro e22
            have h := h e22
            exact hQ _ _ h
        · have h := h.2
          intro e23
          have h := h e23
          exact jaX12_law_28 hQ _ h
set_option maxRecDepth 100000 in
set_option maxHeartbeats 4000000 in
theorem jfX12_law {I : km_S → Prop} (W : gw_ I [1, 5, 9, 10, 53, 54, 55, 56, 58, 59, 60, 61, 62, 63, 64, 65, 66, 67]) {Q : Int32 → km_S → Prop} (hQ : ∀ y0 y1, I y1 → Q y0 y1) : ∀ (l1 : Int32) (l2 : Int32) (μ : km_S), I μ → vX12_law l1 l2 μ Q := by
  intro l1 l2 μ i
  unfold vX12_law
  intro μ3 e1
  have iμ3 : I μ3 := by rw [e1]; exact ((W _ i) 1 (by decide)).1 _
  refine ⟨?_, ?_⟩
  · intro e2
    exact jfX12_law_28 (I := I) (gw_sub W (by decide)) hQ _ iμ3
  · intro e3
    refine ⟨?_, ?_⟩
    · intro e4
      exact jfX12_law_28 (I := I) (gw_sub W (by decide)) hQ _ iμ3
    · intro e5
      refine ⟨?_, ?_⟩
      · intro e6
        exact jfX12_law_28 (I := I) (gw_sub W (by decide)) hQ _ iμ3
      · intro e7
        refine ⟨?_, ?_⟩
        · intro e8
          intro μ8 e9
          have iμ8 : I μ8 := by rw [e9]; exact ((W _ iμ3) 9 (by decide)).1 _
          intro μ9 e10
          have iμ9 : I μ9 := by rw [e10]; exact ((W _ iμ8) 10 (by decide)).1 _
          refine ⟨?_, ?_⟩
          · intro e11
            intro μ11 e12
            have iμ11 : I μ11 := by rw [e12]; exact ((W _ iμ9) 61 (by decide)).1 _
            intro μ12 e13
            have iμ12 : I μ12 := by rw [e13]; exact ((W _ iμ11) 60 (by decide)).1 _
            intro μ13 e14
            have iμ13 : I μ13 := by rw [e14]; exact ((W _ iμ12) 66 (by decide)).1 _
            intro μ14 e15
            have iμ14 : I μ14 := by rw [e15]; exact ((W _ iμ13) 59 (by decide)).1 _
            refine jfX12_readLaw (I := I) (gw_sub W (by decide)) ?_ _ iμ14
            intro μ15 iμ15
            refine ⟨?_, ?_⟩
            · intro e16
              intro e17
              intro μ18 e18
              have iμ18 : I μ18 := by rw [e18]; exact ((W _ iμ15) 53 (by decide)).2.1 _ _
              intro μ19 e19
              have iμ19 : I μ19 := by rw [e19]; exact ((W _ iμ18) 5 (by decide)).1 _
              exact hQ _ _ iμ19
            · intro e20
              intro μ20 e21
              have iμ20 : I μ20 := by rw [e21]; exact ((W _ iμ15) 10 (by decide)).1 _
              exact hQ _ _ iμ20
          · intro e22
            exact hQ _ _ iμ9
        · intro e23
          exact jfX12_law_28 (I := I) (gw_sub W (by decide)) hQ _ iμ3

def vX12_readTest_46 (re : Int32 → km_S → (km_S → Prop) → Prop) (k76 : Int32 → km_S → Prop) (Q : km_S → Prop) (l1 : Int32) (l2 : Int32) (μ : km_S) : Prop := vX12_isSign 60 μ (fun r7 μ6 => ((r7 = 0 → vX12_readTest_61 re k76 Q l1 l2 6 μ6) ∧ (¬ (r7 = 0) → vX12_readTest_61 re k76 Q l1 l2 5 μ6)))
set_option maxRecDepth 100000 in
set_option maxHeartbeats 4000000 in
theorem jcX12_readTest_46 {re re' : Int32 → km_S → (km_S → Prop) → Prop} (hre : ∀ {P P' P'' : km_S → Prop}, (∀ y0, P y0 → P' y0 → P'' y0) → ∀ (x0 : Int32) (x1 : km_S), re x0 x1 P → re' x0 x1 P' → re x0 x1 P'') {k76 k76' k76'' : Int32 → km_S → Prop} (hk76 : ∀ y0 y1, k76 y0 y1 → k76' y0 y1 → k76'' y0 y1) {Q Q' Q'' : km_S → Prop} (hQ : ∀ y0, Q y0 → Q' y0 → Q'' y0) : ∀ (l1 : Int32) (l2 : Int32) (μ : km_S), wX12_readTest_46 re k76 Q l1 l2 μ → vX12_readTest_46 re' k76' Q' l1 l2 μ → wX12_readTest_46 re k76'' Q'' l1 l2 μ := by
  intro l1 l2 μ h v
  unfold wX12_readTest_46 at h
  unfold vX12_readTest_46 at v
  unfold wX12_readTest_46
  refine jcX12_isSign ?_ _ _ h v
  intro r7 μ6 h v
  refine ⟨?_, ?_⟩
  · have h := h.1
    have v := v.1
    intro e1
    have h := h e1
    have v := v e1
    exact jcX12_readTest_61 hre hk76 hQ _ _ _ _ h v
  · have h := h.2
    have v := v.2
    intro e2
    have h := h e2
    have v := v e2
    exact jcX12_readTest_61 hre hk76 hQ _ _ _ _ h v
set_option maxRecDepth 100000 in
set_option maxHeartbeats 4000000 in
theorem jaX12_readTest_46 {re re' : Int32 → km_S → (km_S → Prop) → Prop} (hre : ∀ {P P' : km_S → Prop}, (∀ y0, P y0 → P' y0) → ∀ (x0 : Int32) (x1 : km_S), re x0 x1 P → re' x0 x1 P') {k76 k76' : Int32 → km_S → Prop} (hk76 : ∀ y0 y1, k76 y0 y1 → k76' y0 y1) {Q Q' : km_S → Prop} (hQ : ∀ y0, Q y0 → Q' y0) : ∀ (l1 : Int32) (l2 : Int32) (μ : km_S), wX12_readTest_46 re k76 Q l1 l2 μ → vX12_readTest_46 re' k76' Q' l1 l2 μ := by
  intro l1 l2 μ h
  unfold wX12_readTest_46 at h
  unfold vX12_readTest_46
  refine jaX12_isSign ?_ _ _ h
  intro r7 μ6 h
  refine ⟨?_, ?_⟩
  · have h := h.1
    intro e1
    have h := h e1
    exact jaX12_readTest_61 hre hk76 hQ _ _ _ _ h
  · have h := h.2
    intro e2
    have h := h e2
    exact jaX12_readTest_61 hre hk76 hQ _ _ _ _ h
set_option maxRecDepth 100000 in
set_option maxHeartbeats 4000000 in
theorem jfX12_readTest_46 {I : km_S → Prop} (W : gw_ I [56, 59, 60, 62, 63, 64, 65, 66, 67]) {re : Int32 → km_S → (km_S → Prop) → Prop} (hre : ∀ {P : km_S → Prop}, (∀ y0, I y0 → P y0) → ∀ (x0 : Int32) (x1 : km_S), I x1 → re x0 x1 P) {k76 : Int32 → km_S → Prop} (hk76 : ∀ y0 y1, I y1 → k76 y0 y1) {Q : km_S → Prop} (hQ : ∀ y0, I y0 → Q y0) : ∀ (l1 : Int32) (l2 : Int32) (μ : km_S), I μ → vX12_readTest_46 re k76 Q l1 l2 μ := by
  intro l1 l2 μ i
  unfold vX12_readTest_46
  refine jfX12_isSign (I := I) (gw_sub W (by decide)) ?_ _ _ i
  intro r7 μ6 iμ6
  refine ⟨?_, ?_⟩
  · intro e1
    exact jfX12_readTest_61 (I := I) (gw_sub W (by decide)) hre hk76 hQ _ _ _ _ iμ6
  · intro e2
    exact jfX12_readTest_61 (I := I) (gw_sub W (by decide)) hre hk76 hQ _ _ _ _ iμ6
def vX12_readTest_16 (re : Int32 → km_S → (km_S → Prop) → Prop) (Q : km_S → Prop) (l1 : Int32) (l2 : Int32) (μ : km_S) : Prop := vX12_readSum re l1 μ (fun μ9 => ((¬ (km_i μ9 66) = 0 → vX12_readTest_76 re Q l2 μ9) ∧ ((km_i μ9 66) = 0 → vX12_isSign 60 μ9 (fun r12 μ11 => ((¬ r12 = 0 → vX12_readTest_46 re (vX12_readTest_76 re Q) Q l1 l2 μ11) ∧ (r12 = 0 → vX12_isSign 61 μ11 (fun r15 μ14 => ((r15 = 0 → vX12_readTest_76 re Q l2 μ14) ∧ (¬ (r15 = 0) → vX12_readTest_46 re (vX12_readTest_76 re Q) Q l1 l2 μ14)))))))))
set_option maxRecDepth 100000 in
set_option maxHeartbeats 4000000 in
theorem jcX12_readTest_16 {re re' : Int32 → km_S → (km_S → Prop) → Prop} (hre : ∀ {P P' P'' : km_S → Prop}, (∀ y0, P y0 → P' y0 → P'' y0) → ∀ (x0 : Int32) (x1 : km_S), re x0 x1 P → re' x0 x1 P' → re x0 x1 P'') {Q Q' Q'' : km_S → Prop} (hQ : ∀ y0, Q y0 → Q' y0 → Q'' y0) : ∀ (l1 : Int32) (l2 : Int32) (μ : km_S), wX12_readTest_16 re Q l1 l2 μ → vX12_readTest_16 re' Q' l1 l2 μ → wX12_readTest_16 re Q'' l1 l2 μ := by
  intro l1 l2 μ h v
  unfold wX12_readTest_16 at h
  unfold vX12_readTest_16 at v
  unfold wX12_readTest_16
  refine jcX12_readSum hre ?_ _ _ h v
  intro μ9 h v
  refine ⟨?_, ?_⟩
  · have h := h.1
    have v := v.1
    intro e1
    have h := h e1
    have v := v e1
    exact jcX12_readTest_76 hre hQ _ _ h v
  · have h := h.2
    have v := v.2
    intro e2
    have h := h e2
    have v := v e2
    refine jcX12_isSign ?_ _ _ h v
    intro r12 μ11 h v
    refine ⟨?_, ?_⟩
    · have h := h.1
      have v := v.1
      intro e3
      have h := h e3
      have v := v e3
      exact jcX12_readTest_46 hre (k76 := wX12_readTest_76 re Q) (k76' := vX12_readTest_76 re' Q') (k76'' := wX12_readTest_76 re Q'') (fun _ _ h v => jcX12_readTest_76 hre hQ _ _ h v) hQ _ _ _ h v
    · have h := h.2
      have v := v.2
      intro e4
      have h := h e4
      have v := v e4
      refine jcX12_isSign ?_ _ _ h v
      intro r15 μ14 h v
      refine ⟨?_, ?_⟩
      · have h := h.1
        have v := v.1
        intro e5
        have h := h e5
        have v := v e5
        exact jcX12_readTest_76 hre hQ _ _ h v
      · have h := h.2
        have v := v.2
        intro e6
        have h := h e6
        have v := v e6
        exact jcX12_readTest_46 hre (k76 := wX12_readTest_76 re Q) (k76' := vX12_readTest_76 re' Q') (k76'' := wX12_readTest_76 re Q'') (fun _ _ h v => jcX12_readTest_76 hre hQ _ _ h v) hQ _ _ _ h v
set_option maxRecDepth 100000 in
set_option maxHeartbeats 4000000 in
theorem jaX12_readTest_16 {re re' : Int32 → km_S → (km_S → Prop) → Prop} (hre : ∀ {P P' : km_S → Prop}, (∀ y0, P y0 → P' y0) → ∀ (x0 : Int32) (x1 : km_S), re x0 x1 P → re' x0 x1 P') {Q Q' : km_S → Prop} (hQ : ∀ y0, Q y0 → Q' y0) : ∀ (l1 : Int32) (l2 : Int32) (μ : km_S), wX12_readTest_16 re Q l1 l2 μ → vX12_readTest_16 re' Q' l1 l2 μ := by
  intro l1 l2 μ h
  unfold wX12_readTest_16 at h
  unfold vX12_readTest_16
  refine jaX12_readSum hre ?_ _ _ h
  intro μ9 h
  refine ⟨?_, ?_⟩
  · have h := h.1
    intro e1
    have h := h e1
    exact jaX12_readTest_76 hre hQ _ _ h
  · have h := h.2
    intro e2
    have h := h e2
    refine jaX12_isSign ?_ _ _ h
    intro r12 μ11 h
    refine ⟨?_, ?_⟩
    · have h := h.1
      intro e3
      have h := h e3
      exact jaX12_readTest_46 hre (k76 := wX12_readTest_76 re Q) (k76' := vX12_readTest_76 re' Q') (fun _ _ h => jaX12_readTest_76 hre hQ _ _ h) hQ _ _ _ h
    · have h := h.2
      intro e4
      have h := h e4
      refine jaX12_isSign ?_ _ _ h
      intro r15 μ14 h
      refine ⟨?_, ?_⟩
      · have h := h.1
        intro e5
        have h := h e5
        exact jaX12_readTest_76 hre hQ _ _ h
      · have h := h.2
        intro e6
        have h := h e6
        exact jaX12_readTest_46 hre (k76 := wX12_readTest_76 re Q) (k76' := vX12_readTest_76 re' Q') (fun _ _ h => jaX12_readTest_76 hre hQ _ _ h) hQ _ _ _ h
set_option maxRecDepth 100000 in
set_option maxHeartbeats 4000000 in
theorem jfX12_readTest_16 {I : km_S → Prop} (W : gw_ I [56, 59, 60, 62, 63, 64, 65, 66, 67]) {re : Int32 → km_S → (km_S → Prop) → Prop} (hre : ∀ {P : km_S → Prop}, (∀ y0, I y0 → P y0) → ∀ (x0 : Int32) (x1 : km_S), I x1 → re x0 x1 P) {Q : km_S → Prop} (hQ : ∀ y0, I y0 → Q y0) : ∀ (l1 : Int32) (l2 : Int32) (μ : km_S), I μ → vX12_readTest_16 re Q l1 l2 μ := by
  intro l1 l2 μ i
  unfold vX12_readTest_16
  refine jfX12_readSum (I := I) (gw_sub W (by decide)) hre ?_ _ _ i
  intro μ9 iμ9
  refine ⟨?_, ?_⟩
  · intro e1
    exact jfX12_readTest_76 (I := I) (gw_sub W (by decide)) hre hQ _ _ iμ9
  · intro e2
    refine jfX12_isSign (I := I) (gw_sub W (by decide)) ?_ _ _ iμ9
    intro r12 μ11 iμ11
    refine ⟨?_, ?_⟩
    · intro e3
      exact jfX12_readTest_46 (I := I) (gw_sub W (by decide)) hre (k76 := vX12_readTest_76 re Q) (fun _ _ i => jfX12_readTest_76 (I := I) (gw_sub W (by decide)) hre hQ _ _ i) hQ _ _ _ iμ11
    · intro e4
      refine jfX12_isSign (I := I) (gw_sub W (by decide)) ?_ _ _ iμ11
      intro r15 μ14 iμ14
      refine ⟨?_, ?_⟩
      · intro e5
        exact jfX12_readTest_76 (I := I) (gw_sub W (by decide)) hre hQ _ _ iμ14
      · intro e6
        exact jfX12_readTest_46 (I := I) (gw_sub W (by decide)) hre (k76 := vX12_readTest_76 re Q) (fun _ _ i => jfX12_readTest_76 (I := I) (gw_sub W (by decide)) hre hQ _ _ i) hQ _ _ _ iμ14
def vX12_readTest (re : Int32 → km_S → (km_S → Prop) → Prop) (l1 : Int32) (μ : km_S) (Q : km_S → Prop) : Prop := vX12_isWord 11 μ (fun r18 μ17 => ((r18 = 0 → vX12_readTest_16 re Q l1 r18 μ17) ∧ (¬ (r18 = 0) → vX12_step μ17 (fun μ20 => vX12_readTest_16 re Q l1 r18 μ20))))
set_option maxRecDepth 100000 in
set_option maxHeartbeats 4000000 in
theorem jcX12_readTest {re re' : Int32 → km_S → (km_S → Prop) → Prop} (hre : ∀ {P P' P'' : km_S → Prop}, (∀ y0, P y0 → P' y0 → P'' y0) → ∀ (x0 : Int32) (x1 : km_S), re x0 x1 P → re' x0 x1 P' → re x0 x1 P'') {Q Q' Q'' : km_S → Prop} (hQ : ∀ y0, Q y0 → Q' y0 → Q'' y0) : ∀ (l1 : Int32) (μ : km_S), wX12_readTest re l1 μ Q → vX12_readTest re' l1 μ Q' → wX12_readTest re l1 μ Q'' := by
  intro l1 μ h v
  unfold wX12_readTest at h
  unfold vX12_readTest at v
  unfold wX12_readTest
  refine jcX12_isWord ?_ _ _ h v
  intro r18 μ17 h v
  refine ⟨?_, ?_⟩
  · have h := h.1
    have v := v.1
    intro e1
    have h := h e1
    have v := v e1
    exact jcX12_readTest_16 hre hQ _ _ _ h v
  · have h := h.2
    have v := v.2
    intro e2
    have h := h e2
    have v := v e2
    refine jcX12_step ?_ _ h v
    intro μ20 h v
    exact jcX12_readTest_16 hre hQ _ _ _ h v
set_option maxRecDepth 100000 in
set_option maxHeartbeats 4000000 in
theorem jaX12_readTest {re re' : Int32 → km_S → (km_S → Prop) → Prop} (hre : ∀ {P P' : km_S → Prop}, (∀ y0, P y0 → P' y0) → ∀ (x0 : Int32) (x1 : km_S), re x0 x1 P → re' x0 x1 P') {Q Q' : km_S → Prop} (hQ : ∀ y0, Q y0 → Q' y0) : ∀ (l1 : Int32) (μ : km_S), wX12_readTest re l1 μ Q → vX12_readTest re' l1 μ Q' := by
  intro l1 μ h
  unfold wX12_readTest at h
  unfold vX12_readTest
  refine jaX12_isWord ?_ _ _ h
  intro r18 μ17 h
  refine ⟨?_, ?_⟩
  · have h := h.1
    intro e1
    have h := h e1
    exact jaX12_readTest_16 hre hQ _ _ _ h
  · have h := h.2
    intro e2
    have h := h e2
    refine jaX12_step ?_ _ h
    intro μ20 h
    exact jaX12_readTest_16 hre hQ _ _ _ h
set_option maxRecDepth 100000 in
set_option maxHeartbeats 4000000 in
theorem jfX12_readTest {I : km_S → Prop} (W : gw_ I [56, 59, 60, 62, 63, 64, 65, 66, 67]) {re : Int32 → km_S → (km_S → Prop) → Prop} (hre : ∀ {P : km_S → Prop}, (∀ y0, I y0 → P y0) → ∀ (x0 : Int32) (x1 : km_S), I x1 → re x0 x1 P) {Q : km_S → Prop} (hQ : ∀ y0, I y0 → Q y0) : ∀ (l1 : Int32) (μ : km_S), I μ → vX12_readTest re l1 μ Q := by
  intro l1 μ i
  unfold vX12_readTest
  refine jfX12_isWord (I := I) (gw_sub W (by decide)) ?_ _ _ i
  intro r18 μ17 iμ17
  refine ⟨?_, ?_⟩
  · intro e1
    exact jfX12_readTest_16 (I := I) (gw_sub W (by decide)) hre hQ _ _ _ iμ17
  · intro e2
    refine jfX12_step (I := I) (gw_sub W (by decide)) ?_ _ iμ17
    intro μ20 iμ20
    exact jfX12_readTest_16 (I := I) (gw_sub W (by decide)) hre hQ _ _ _ iμ20
def vX12_readExpression_25 (re : Int32 → km_S → (km_S → Prop) → Prop) (k30 : Int32 → Int32 → km_S → Prop) (Q : km_S → Prop) (l1 : Int32) (μ : km_S) : Prop := k30 l1 1 μ
set_option maxRecDepth 100000 in
set_option maxHeartbeats 4000000 in
theorem jcX12_readExpression_25 {re re' : Int32 → km_S → (km_S → Prop) → Prop} (hre : ∀ {P P' P'' : km_S → Prop}, (∀ y0, P y0 → P' y0 → P'' y0) → ∀ (x0 : Int32) (x1 : km_S), re x0 x1 P → re' x0 x1 P' → re x0 x1 P'') {k30 k30' k30'' : Int32 → Int32 → km_S → Prop} (hk30 : ∀ y0 y1 y2, k30 y0 y1 y2 → k30' y0 y1 y2 → k30'' y0 y1 y2) {Q Q' Q'' : km_S → Prop} (hQ : ∀ y0, Q y0 → Q' y0 → Q'' y0) : ∀ (l1 : Int32) (μ : km_S), wX12_readExpression_25 re k30 Q l1 μ → vX12_readExpression_25 re' k30' Q' l1 μ → wX12_readExpression_25 re k30'' Q'' l1 μ := by
  intro l1 μ h v
  unfold wX12_readExpression_25 at h
  unfold vX12_readExpression_25 at v
  unfold wX12_readExpression_25
  exact hk30 _ _ _ h v
set_option maxRecDepth 100000 in
set_option maxHeartbeats 4000000 in
theorem jaX12_readExpression_25 {re re' : Int32 → km_S → (km_S → Prop) → Prop} (hre : ∀ {P P' : km_S → Prop}, (∀ y0, P y0 → P' y0) → ∀ (x0 : Int32) (x1 : km_S), re x0 x1 P → re' x0 x1 P') {k30 k30' : Int32 → Int32 → km_S → Prop} (hk30 : ∀ y0 y1 y2, k30 y0 y1 y2 → k30' y0 y1 y2) {Q Q' : km_S → Prop} (hQ : ∀ y0, Q y0 → Q' y0) : ∀ (l1 : Int32) (μ : km_S), wX12_readExpression_25 re k30 Q l1 μ → vX12_readExpression_25 re' k30' Q' l1 μ := by
  intro l1 μ h
  unfold wX12_readExpression_25 at h
  unfold vX12_readExpression_25
  exact hk30 _ _ _ h
set_option maxRecDepth 100000 in
set_option maxHeartbeats 4000000 in
theorem jfX12_readExpression_25 {I : km_S → Prop} (W : gw_ I [56, 59, 60, 62, 63, 64, 65, 66, 67]) {re : Int32 → km_S → (km_S → Prop) → Prop} (hre : ∀ {P : km_S → Prop}, (∀ y0, I y0 → P y0) → ∀ (x0 : Int32) (x1 : km_S), I x1 → re x0 x1 P) {k30 : Int32 → Int32 → km_S → Prop} (hk30 : ∀ y0 y1 y2, I y2 → k30 y0 y1 y2) {Q : km_S → Prop} (hQ : ∀ y0, I y0 → Q y0) : ∀ (l1 : Int32) (μ : km_S), I μ → vX12_readExpression_25 re k30 Q l1 μ := by
  intro l1 μ i
  unfold vX12_readExpression_25
  exact hk30 _ _ _ i
def vX12_readExpression_111 (re : Int32 → km_S → (km_S → Prop) → Prop) (k67 : Int32 → km_S → Prop) (Q : km_S → Prop) (l1 : Int32) (s0 : Int32) (μ : km_S) : Prop := vX12_step μ (fun μ1 => vX12_readTest re l1 μ1 (fun μ2 => vX12_emit s0 μ2 (fun μ3 => k67 l1 μ3)))
set_option maxRecDepth 100000 in
set_option maxHeartbeats 4000000 in
theorem jcX12_readExpression_111 {re re' : Int32 → km_S → (km_S → Prop) → Prop} (hre : ∀ {P P' P'' : km_S → Prop}, (∀ y0, P y0 → P' y0 → P'' y0) → ∀ (x0 : Int32) (x1 : km_S), re x0 x1 P → re' x0 x1 P' → re x0 x1 P'') {k67 k67' k67'' : Int32 → km_S → Prop} (hk67 : ∀ y0 y1, k67 y0 y1 → k67' y0 y1 → k67'' y0 y1) {Q Q' Q'' : km_S → Prop} (hQ : ∀ y0, Q y0 → Q' y0 → Q'' y0) : ∀ (l1 : Int32) (s0 : Int32) (μ : km_S), wX12_readExpression_111 re k67 Q l1 s0 μ → vX12_readExpression_111 re' k67' Q' l1 s0 μ → wX12_readExpression_111 re k67'' Q'' l1 s0 μ := by
  intro l1 s0 μ h v
  unfold wX12_readExpression_111 at h
  unfold vX12_readExpression_111 at v
  unfold wX12_readExpression_111
  refine jcX12_step ?_ _ h v
  intro μ1 h v
  refine jcX12_readTest hre ?_ _ _ h v
  intro μ2 h v
  refine jcX12_emit ?_ _ _ h v
  intro μ3 h v
  exact hk67 _ _ h v
set_option maxRecDepth 100000 in
set_option maxHeartbeats 4000000 in
theorem jaX12_readExpression_111 {re re' : Int32 → km_S → (km_S → Prop) → Prop} (hre : ∀ {P P' : km_S → Prop}, (∀ y0, P y0 → P' y0) → ∀ (x0 : Int32) (x1 : km_S), re x0 x1 P → re' x0 x1 P') {k67 k67' : Int32 → km_S → Prop} (hk67 : ∀ y0 y1, k67 y0 y1 → k67' y0 y1) {Q Q' : km_S → Prop} (hQ : ∀ y0, Q y0 → Q' y0) : ∀ (l1 : Int32) (s0 : Int32) (μ : km_S), wX12_readExpression_111 re k67 Q l1 s0 μ → vX12_readExpression_111 re' k67' Q' l1 s0 μ := by
  intro l1 s0 μ h
  unfold wX12_readExpression_111 at h
  unfold vX12_readExpression_111
  refine jaX12_step ?_ _ h
  intro μ1 h
  refine jaX12_readTest hre ?_ _ _ h
  intro μ2 h
  refine jaX12_emit ?_ _ _ h
  intro μ3 h
  exact hk67 _ _ h
set_option maxRecDepth 100000 in
set_option maxHeartbeats 4000000 in
theorem jfX12_readExpression_111 {I : km_S → Prop} (W : gw_ I [56, 59, 60, 62, 63, 64, 65, 66, 67]) {re : Int32 → km_S → (km_S → Prop) → Prop} (hre : ∀ {P : km_S → Prop}, (∀ y0, I y0 → P y0) → ∀ (x0 : Int32) (x1 : km_S), I x1 → re x0 x1 P) {k67 : Int32 → km_S → Prop} (hk67 : ∀ y0 y1, I y1 → k67 y0 y1) {Q : km_S → Prop} (hQ : ∀ y0, I y0 → Q y0) : ∀ (l1 : Int32) (s0 : Int32) (μ : km_S), I μ → vX12_readExpression_111 re k67 Q l1 s0 μ := by
  intro l1 s0 μ i
  unfold vX12_readExpression_111
  refine jfX12_step (I := I) (gw_sub W (by decide)) ?_ _ i
  intro μ1 iμ1
  refine jfX12_readTest (I := I) (gw_sub W (by decide)) hre ?_ _ _ iμ1
  intro μ2 iμ2
  refine jfX12_emit (I := I) (gw_sub W (by decide)) ?_ _ _ iμ2
  intro μ3 iμ3
  exact hk67 _ _ iμ3
def vX12_readExpression_94 (re : Int32 → km_S → (km_S → Prop) → Prop) (k67 : Int32 → km_S → Prop) (Q : km_S → Prop) (l1 : Int32) (μ : km_S) : Prop := vX12_isWord 9 μ (fun r5 μ4 => ((r5 = 0 → vX12_readExpression_111 re k67 Q l1 8 μ4) ∧ (¬ (r5 = 0) → vX12_readExpression_111 re k67 Q l1 7 μ4)))
set_option maxRecDepth 100000 in
set_option maxHeartbeats 4000000 in
theorem jcX12_readExpression_94 {re re' : Int32 → km_S → (km_S → Prop) → Prop} (hre : ∀ {P P' P'' : km_S → Prop}, (∀ y0, P y0 → P' y0 → P'' y0) → ∀ (x0 : Int32) (x1 : km_S), re x0 x1 P → re' x0 x1 P' → re x0 x1 P'') {k67 k67' k67'' : Int32 → km_S → Prop} (hk67 : ∀ y0 y1, k67 y0 y1 → k67' y0 y1 → k67'' y0 y1) {Q Q' Q'' : km_S → Prop} (hQ : ∀ y0, Q y0 → Q' y0 → Q'' y0) : ∀ (l1 : Int32) (μ : km_S), wX12_readExpression_94 re k67 Q l1 μ → vX12_readExpression_94 re' k67' Q' l1 μ → wX12_readExpression_94 re k67'' Q'' l1 μ := by
  intro l1 μ h v
  unfold wX12_readExpression_94 at h
  unfold vX12_readExpression_94 at v
  unfold wX12_readExpression_94
  refine jcX12_isWord ?_ _ _ h v
  intro r5 μ4 h v
  refine ⟨?_, ?_⟩
  · have h := h.1
    have v := v.1
    intro e1
    have h := h e1
    have v := v e1
    exact jcX12_readExpression_111 hre hk67 hQ _ _ _ h v
  · have h := h.2
    have v := v.2
    intro e2
    have h := h e2
    have v := v e2
    exact jcX12_readExpression_111 hre hk67 hQ _ _ _ h v
set_option maxRecDepth 100000 in
set_option maxHeartbeats 4000000 in
theorem jaX12_readExpression_94 {re re' : Int32 → km_S → (km_S → Prop) → Prop} (hre : ∀ {P P' : km_S → Prop}, (∀ y0, P y0 → P' y0) → ∀ (x0 : Int32) (x1 : km_S), re x0 x1 P → re' x0 x1 P') {k67 k67' : Int32 → km_S → Prop} (hk67 : ∀ y0 y1, k67 y0 y1 → k67' y0 y1) {Q Q' : km_S → Prop} (hQ : ∀ y0, Q y0 → Q' y0) : ∀ (l1 : Int32) (μ : km_S), wX12_readExpression_94 re k67 Q l1 μ → vX12_readExpression_94 re' k67' Q' l1 μ := by
  intro l1 μ h
  unfold wX12_readExpression_94 at h
  unfold vX12_readExpression_94
  refine jaX12_isWord ?_ _ _ h
  intro r5 μ4 h
  refine ⟨?_, ?_⟩
  · have h := h.1
    intro e1
    have h := h e1
    exact jaX12_readExpression_111 hre hk67 hQ _ _ _ h
  · have h := h.2
    intro e2
    have h := h e2
    exact jaX12_readExpression_111 hre hk67 hQ _ _ _ h
set_option maxRecDepth 100000 in
set_option maxHeartbeats 4000000 in
theorem jfX12_readExpression_94 {I : km_S → Prop} (W : gw_ I [56, 59, 60, 62, 63, 64, 65, 66, 67]) {re : Int32 → km_S → (km_S → Prop) → Prop} (hre : ∀ {P : km_S → Prop}, (∀ y0, I y0 → P y0) → ∀ (x0 : Int32) (x1 : km_S), I x1 → re x0 x1 P) {k67 : Int32 → km_S → Prop} (hk67 : ∀ y0 y1, I y1 → k67 y0 y1) {Q : km_S → Prop} (hQ : ∀ y0, I y0 → Q y0) : ∀ (l1 : Int32) (μ : km_S), I μ → vX12_readExpression_94 re k67 Q l1 μ := by
  intro l1 μ i
  unfold vX12_readExpression_94
  refine jfX12_isWord (I := I) (gw_sub W (by decide)) ?_ _ _ i
  intro r5 μ4 iμ4
  refine ⟨?_, ?_⟩
  · intro e1
    exact jfX12_readExpression_111 (I := I) (gw_sub W (by decide)) hre hk67 hQ _ _ _ iμ4
  · intro e2
    exact jfX12_readExpression_111 (I := I) (gw_sub W (by decide)) hre hk67 hQ _ _ _ iμ4
def vX12_readExpression_67 (re : Int32 → km_S → (km_S → Prop) → Prop) (Q : km_S → Prop) : Nat → Int32 → km_S → Prop
  | 0, _, _ => True
  | n + 1, l1, μ => ((¬ (km_i μ 66) = 0 → Q μ) ∧ ((km_i μ 66) = 0 → vX12_isWord 9 μ (fun r9 μ8 => ((¬ r9 = 0 → vX12_readExpression_94 re (vX12_readExpression_67 re Q n) Q l1 μ8) ∧ (r9 = 0 → vX12_isWord 10 μ8 (fun r12 μ11 => ((r12 = 0 → Q μ11) ∧ (¬ (r12 = 0) → vX12_readExpression_94 re (vX12_readExpression_67 re Q n) Q l1 μ11))))))))
set_option maxRecDepth 100000 in
set_option maxHeartbeats 4000000 in
theorem jcX12_readExpression_67 {re re' : Int32 → km_S → (km_S → Prop) → Prop} (hre : ∀ {P P' P'' : km_S → Prop}, (∀ y0, P y0 → P' y0 → P'' y0) → ∀ (x0 : Int32) (x1 : km_S), re x0 x1 P → re' x0 x1 P' → re x0 x1 P'') {Q Q' Q'' : km_S → Prop} (hQ : ∀ y0, Q y0 → Q' y0 → Q'' y0) : ∀ (n : Nat) (l1 : Int32) (μ : km_S), wX12_readExpression_67 re Q n l1 μ → vX12_readExpression_67 re' Q' n l1 μ → wX12_readExpression_67 re Q'' n l1 μ := by
  intro n
  induction n with
  | zero => intro l1 μ h; exact h.elim
  | succ n ih =>
    intro l1 μ h v
    unfold wX12_readExpression_67 at h
    unfold vX12_readExpression_67 at v
    unfold wX12_readExpression_67
    refine ⟨?_, ?_⟩
    · have h := h.1
      have v := v.1
      intro e1
      have h := h e1
      have v := v e1
      exact hQ _ h v
    · have h := h.2
      have v := v.2
      intro e2
      have h := h e2
      have v := v e2
      refine jcX12_isWord ?_ _ _ h v
      intro r9 μ8 h v
      refine ⟨?_, ?_⟩
      · have h := h.1
        have v := v.1
        intro e3
        have h := h e3
        have v := v e3
        exact jcX12_readExpression_94 hre (k67 := wX12_readExpression_67 re Q n) (k67' := vX12_readExpression_67 re' Q' n) (k67'' := wX12_readExpression_67 re Q'' n) (fun _ _ h v => ih _ _ h v) hQ _ _ h v
      · have h := h.2
        have v := v.2
        intro e4
        have h := h e4
        have v := v e4
        refine jcX12_isWord ?_ _ _ h v
        intro r12 μ11 h v
        refine ⟨?_, ?_⟩
        · have h := h.1
          have v := v.1
          intro e5
          have h := h e5
          have v := v e5
          exact hQ _ h v
        · have h := h.2
          have v := v.2
          intro e6
          have h := h e6
          have v := v e6
          exact jcX12_readExpression_94 hre (k67 := wX12_readExpression_67 re Q n) (k67' := vX12_readExpression_67 re' Q' n) (k67'' := wX12_readExpression_67 re Q'' n) (fun _ _ h v => ih _ _ h v) hQ _ _ h v
set_option maxRecDepth 100000 in
set_option maxHeartbeats 4000000 in
theorem jaX12_readExpression_67 {re re' : Int32 → km_S → (km_S → Prop) → Prop} (hre : ∀ {P P' : km_S → Prop}, (∀ y0, P y0 → P' y0) → ∀ (x0 : Int32) (x1 : km_S), re x0 x1 P → re' x0 x1 P') {Q Q' : km_S → Prop} (hQ : ∀ y0, Q y0 → Q' y0) : ∀ (n m : Nat) (l1 : Int32) (μ : km_S), wX12_readExpression_67 re Q n l1 μ → vX12_readExpression_67 re' Q' m l1 μ := by
  intro n
  induction n with
  | zero => intro m l1 μ h; exact h.elim
  | succ n ih =>
    intro m l1 μ h
    cases m with
    | zero => exact trivial
    | succ m =>
      unfold wX12_readExpression_67 at h
      unfold vX12_readExpression_67
      refine ⟨?_, ?_⟩
      · have h := h.1
        intro e1
        have h := h e1
        exact hQ _ h
      · have h := h.2
        intro e2
        have h := h e2
        refine jaX12_isWord ?_ _ _ h
        intro r9 μ8 h
        refine ⟨?_, ?_⟩
        · have h := h.1
          intro e3
          have h := h e3
          exact jaX12_readExpression_94 hre (k67 := wX12_readExpression_67 re Q n) (k67' := vX12_readExpression_67 re' Q' m) (fun _ _ h => ih m _ _ h) hQ _ _ h
        · have h := h.2
          intro e4
          have h := h e4
          refine jaX12_isWord ?_ _ _ h
          intro r12 μ11 h
          refine ⟨?_, ?_⟩
          · have h := h.1
            intro e5
            have h := h e5
            exact hQ _ h
          · have h := h.2
            intro e6
            have h := h e6
            exact jaX12_readExpression_94 hre (k67 := wX12_readExpression_67 re Q n) (k67' := vX12_readExpression_67 re' Q' m) (fun _ _ h => ih m _ _ h) hQ _ _ h
set_option maxRecDepth 100000 in
set_option maxHeartbeats 4000000 in
theorem jfX12_readExpression_67 {I : km_S → Prop} (W : gw_ I [56, 59, 60, 62, 63, 64, 65, 66, 67]) {re : Int32 → km_S → (km_S → Prop) → Prop} (hre : ∀ {P : km_S → Prop}, (∀ y0, I y0 → P y0) → ∀ (x0 : Int32) (x1 : km_S), I x1 → re x0 x1 P) {Q : km_S → Prop} (hQ : ∀ y0, I y0 → Q y0) : ∀ (n : Nat) (l1 : Int32) (μ : km_S), I μ → vX12_readExpression_67 re Q n l1 μ := by
  intro n
  induction n with
  | zero => intro l1 μ i; exact trivial
  | succ n ih =>
    intro l1 μ i
    unfold vX12_readExpression_67
    refine ⟨?_, ?_⟩
    · intro e1
      exact hQ _ i
    · intro e2
      refine jfX12_isWord (I := I) (gw_sub W (by decide)) ?_ _ _ i
      intro r9 μ8 iμ8
      refine ⟨?_, ?_⟩
      · intro e3
        exact jfX12_readExpression_94 (I := I) (gw_sub W (by decide)) hre (k67 := vX12_readExpression_67 re Q n) (fun _ _ i => ih _ _ i) hQ _ _ iμ8
      · intro e4
        refine jfX12_isWord (I := I) (gw_sub W (by decide)) ?_ _ _ iμ8
        intro r12 μ11 iμ11
        refine ⟨?_, ?_⟩
        · intro e5
          exact hQ _ iμ11
        · intro e6
          exact jfX12_readExpression_94 (I := I) (gw_sub W (by decide)) hre (k67 := vX12_readExpression_67 re Q n) (fun _ _ i => ih _ _ i) hQ _ _ iμ11
def vX12_readExpression_54 (re : Int32 → km_S → (km_S → Prop) → Prop) (Q : km_S → Prop) (l1 : Int32) (μ : km_S) : Prop := (((km_i μ 66) = 0 → vX12_readTest re l1 μ (fun μ15 => ∀ j, vX12_readExpression_67 re Q j l1 μ15)) ∧ (¬ ((km_i μ 66) = 0) → Q μ))
set_option maxRecDepth 100000 in
set_option maxHeartbeats 4000000 in
theorem jcX12_readExpression_54 {re re' : Int32 → km_S → (km_S → Prop) → Prop} (hre : ∀ {P P' P'' : km_S → Prop}, (∀ y0, P y0 → P' y0 → P'' y0) → ∀ (x0 : Int32) (x1 : km_S), re x0 x1 P → re' x0 x1 P' → re x0 x1 P'') {Q Q' Q'' : km_S → Prop} (hQ : ∀ y0, Q y0 → Q' y0 → Q'' y0) : ∀ (l1 : Int32) (μ : km_S), wX12_readExpression_54 re Q l1 μ → vX12_readExpression_54 re' Q' l1 μ → wX12_readExpression_54 re Q'' l1 μ := by
  intro l1 μ h v
  unfold wX12_readExpression_54 at h
  unfold vX12_readExpression_54 at v
  unfold wX12_readExpression_54
  refine ⟨?_, ?_⟩
  · have h := h.1
    have v := v.1
    intro e1
    have h := h e1
    have v := v e1
    refine jcX12_readTest hre ?_ _ _ h v
    intro μ15 h v
    obtain ⟨j, h⟩ := h
    refine ⟨j, ?_⟩
    have v := v j
    exact jcX12_readExpression_67 hre hQ _ _ _ h v
  · have h := h.2
    have v := v.2
    intro e2
    have h := h e2
    have v := v e2
    exact hQ _ h v
set_option maxRecDepth 100000 in
set_option maxHeartbeats 4000000 in
theorem jaX12_readExpression_54 {re re' : Int32 → km_S → (km_S → Prop) → Prop} (hre : ∀ {P P' : km_S → Prop}, (∀ y0, P y0 → P' y0) → ∀ (x0 : Int32) (x1 : km_S), re x0 x1 P → re' x0 x1 P') {Q Q' : km_S → Prop} (hQ : ∀ y0, Q y0 → Q' y0) : ∀ (l1 : Int32) (μ : km_S), wX12_readExpression_54 re Q l1 μ → vX12_readExpression_54 re' Q' l1 μ := by
  intro l1 μ h
  unfold wX12_readExpression_54 at h
  unfold vX12_readExpression_54
  refine ⟨?_, ?_⟩
  · have h := h.1
    intro e1
    have h := h e1
    refine jaX12_readTest hre ?_ _ _ h
    intro μ15 h
    obtain ⟨j, h⟩ := h
    intro j9
    exact jaX12_readExpression_67 hre hQ _ j9 _ _ h
  · have h := h.2
    intro e2
    have h := h e2
    exact hQ _ h
set_option maxRecDepth 100000 in
set_option maxHeartbeats 4000000 in
theorem jfX12_readExpression_54 {I : km_S → Prop} (W : gw_ I [56, 59, 60, 62, 63, 64, 65, 66, 67]) {re : Int32 → km_S → (km_S → Prop) → Prop} (hre : ∀ {P : km_S → Prop}, (∀ y0, I y0 → P y0) → ∀ (x0 : Int32) (x1 : km_S), I x1 → re x0 x1 P) {Q : km_S → Prop} (hQ : ∀ y0, I y0 → Q y0) : ∀ (l1 : Int32) (μ : km_S), I μ → vX12_readExpression_54 re Q l1 μ := by
  intro l1 μ i
  unfold vX12_readExpression_54
  refine ⟨?_, ?_⟩
  · intro e1
    refine jfX12_readTest (I := I) (gw_sub W (by decide)) hre ?_ _ _ i
    intro μ15 iμ15
    intro j
    exact jfX12_readExpression_67 (I := I) (gw_sub W (by decide)) hre hQ _ _ _ iμ15
  · intro e2
    exact hQ _ i
def vX12_readExpression_30 (re : Int32 → km_S → (km_S → Prop) → Prop) (Q : km_S → Prop) (l1 : Int32) (s0 : Int32) (μ : km_S) : Prop := ((¬ s0 = 0 → ((¬ l1 = 8 → vX12_readExpression_54 re Q l1 μ) ∧ (l1 = 8 → vX12_wrong 2 μ (fun μ19 => vX12_readExpression_54 re Q l1 μ19)))) ∧ (s0 = 0 → vX12_wrong 1 μ (fun μ20 => vX12_readExpression_54 re Q l1 μ20)))
set_option maxRecDepth 100000 in
set_option maxHeartbeats 4000000 in
theorem jcX12_readExpression_30 {re re' : Int32 → km_S → (km_S → Prop) → Prop} (hre : ∀ {P P' P'' : km_S → Prop}, (∀ y0, P y0 → P' y0 → P'' y0) → ∀ (x0 : Int32) (x1 : km_S), re x0 x1 P → re' x0 x1 P' → re x0 x1 P'') {Q Q' Q'' : km_S → Prop} (hQ : ∀ y0, Q y0 → Q' y0 → Q'' y0) : ∀ (l1 : Int32) (s0 : Int32) (μ : km_S), wX12_readExpression_30 re Q l1 s0 μ → vX12_readExpression_30 re' Q' l1 s0 μ → wX12_readExpression_30 re Q'' l1 s0 μ := by
  intro l1 s0 μ h v
  unfold wX12_readExpression_30 at h
  unfold vX12_readExpression_30 at v
  unfold wX12_readExpression_30
  refine ⟨?_, ?_⟩
  · have h := h.1
    have v := v.1
    intro e1
    have h := h e1
    have v := v e1
    refine ⟨?_, ?_⟩
    · have h := h.1
      have v := v.1
      intro e2
      have h := h e2
      have v := v e2
      exact jcX12_readExpression_54 hre hQ _ _ h v
    · have h := h.2
      have v := v.2
      intro e3
      have h := h e3
      have v := v e3
      refine jcX12_wrong ?_ _ _ h v
      intro μ19 h v
      exact jcX12_readExpression_54 hre hQ _ _ h v
  · have h := h.2
    have v := v.2
    intro e4
    have h := h e4
    have v := v e4
    refine jcX12_wrong ?_ _ _ h v
    intro μ20 h v
    exact jcX12_readExpression_54 hre hQ _ _ h v
set_option maxRecDepth 100000 in
set_option maxHeartbeats 4000000 in
theorem jaX12_readExpression_30 {re re' : Int32 → km_S → (km_S → Prop) → Prop} (hre : ∀ {P P' : km_S → Prop}, (∀ y0, P y0 → P' y0) → ∀ (x0 : Int32) (x1 : km_S), re x0 x1 P → re' x0 x1 P') {Q Q' : km_S → Prop} (hQ : ∀ y0, Q y0 → Q' y0) : ∀ (l1 : Int32) (s0 : Int32) (μ : km_S), wX12_readExpression_30 re Q l1 s0 μ → vX12_readExpression_30 re' Q' l1 s0 μ := by
  intro l1 s0 μ h
  unfold wX12_readExpression_30 at h
  unfold vX12_readExpression_30
  refine ⟨?_, ?_⟩
  · have h := h.1
    intro e1
    have h := h e1
    refine ⟨?_, ?_⟩
    · have h := h.1
      intro e2
      have h := h e2
      exact jaX12_readExpression_54 hre hQ _ _ h
    · have h := h.2
      intro e3
      have h := h e3
      refine jaX12_wrong ?_ _ _ h
      intro μ19 h
      exact jaX12_readExpression_54 hre hQ _ _ h
  · have h := h.2
    intro e4
    have h := h e4
    refine jaX12_wrong ?_ _ _ h
    intro μ20 h
    exact jaX12_readExpression_54 hre hQ _ _ h
set_option maxRecDepth 100000 in
set_option maxHeartbeats 4000000 in
theorem jfX12_readExpression_30 {I : km_S → Prop} (W : gw_ I [56, 59, 60, 62, 63, 64, 65, 66, 67]) {re : Int32 → km_S → (km_S → Prop) → Prop} (hre : ∀ {P : km_S → Prop}, (∀ y0, I y0 → P y0) → ∀ (x0 : Int32) (x1 : km_S), I x1 → re x0 x1 P) {Q : km_S → Prop} (hQ : ∀ y0, I y0 → Q y0) : ∀ (l1 : Int32) (s0 : Int32) (μ : km_S), I μ → vX12_readExpression_30 re Q l1 s0 μ := by
  intro l1 s0 μ i
  unfold vX12_readExpression_30
  refine ⟨?_, ?_⟩
  · intro e1
    refine ⟨?_, ?_⟩
    · intro e2
      exact jfX12_readExpression_54 (I := I) (gw_sub W (by decide)) hre hQ _ _ i
    · intro e3
      refine jfX12_wrong (I := I) (gw_sub W (by decide)) ?_ _ _ i
      intro μ19 iμ19
      exact jfX12_readExpression_54 (I := I) (gw_sub W (by decide)) hre hQ _ _ iμ19
  · intro e4
    refine jfX12_wrong (I := I) (gw_sub W (by decide)) ?_ _ _ i
    intro μ20 iμ20
    exact jfX12_readExpression_54 (I := I) (gw_sub W (by decide)) hre hQ _ _ iμ20
def vX12_readExpression_b (re : Int32 → km_S → (km_S → Prop) → Prop) (l1 : Int32) (μ : km_S) (Q : km_S → Prop) : Prop := (((km_i μ 62) = 1 → vX12_readExpression_25 re (vX12_readExpression_30 re Q) Q l1 μ) ∧ (¬ ((km_i μ 62) = 1) → (((km_i μ 62) = 2 → vX12_readExpression_25 re (vX12_readExpression_30 re Q) Q l1 μ) ∧ (¬ ((km_i μ 62) = 2) → vX12_isSign 40 μ (fun r24 μ23 => ((r24 = 0 → vX12_readExpression_30 re Q l1 0 μ23) ∧ (¬ (r24 = 0) → vX12_readExpression_25 re (vX12_readExpression_30 re Q) Q l1 μ23)))))))
set_option maxRecDepth 100000 in
set_option maxHeartbeats 4000000 in
theorem jcX12_readExpression_b {re re' : Int32 → km_S → (km_S → Prop) → Prop} (hre : ∀ {P P' P'' : km_S → Prop}, (∀ y0, P y0 → P' y0 → P'' y0) → ∀ (x0 : Int32) (x1 : km_S), re x0 x1 P → re' x0 x1 P' → re x0 x1 P'') {Q Q' Q'' : km_S → Prop} (hQ : ∀ y0, Q y0 → Q' y0 → Q'' y0) : ∀ (l1 : Int32) (μ : km_S), wX12_readExpression_b re l1 μ Q → vX12_readExpression_b re' l1 μ Q' → wX12_readExpression_b re l1 μ Q'' := by
  intro l1 μ h v
  unfold wX12_readExpression_b at h
  unfold vX12_readExpression_b at v
  unfold wX12_readExpression_b
  refine ⟨?_, ?_⟩
  · have h := h.1
    have v := v.1
    intro e1
    have h := h e1
    have v := v e1
    exact jcX12_readExpression_25 hre (k30 := wX12_readExpression_30 re Q) (k30' := vX12_readExpression_30 re' Q') (k30'' := wX12_readExpression_30 re Q'') (fun _ _ _ h v => jcX12_readExpression_30 hre hQ _ _ _ h v) hQ _ _ h v
  · have h := h.2
    have v := v.2
    intro e2
    have h := h e2
    have v := v e2
    refine ⟨?_, ?_⟩
    · have h := h.1
      have v := v.1
      intro e3
      have h := h e3
      have v := v e3
      exact jcX12_readExpression_25 hre (k30 := wX12_readExpression_30 re Q) (k30' := vX12_readExpression_30 re' Q') (k30'' := wX12_readExpression_30 re Q'') (fun _ _ _ h v => jcX12_readExpression_30 hre hQ _ _ _ h v) hQ _ _ h v
    · have h := h.2
      have v := v.2
      intro e4
      have h := h e4
      have v := v e4
      refine jcX12_isSign ?_ _ _ h v
      intro r24 μ23 h v
      refine ⟨?_, ?_⟩
      · have h := h.1
        have v := v.1
        intro e5
        have h := h e5
        have v := v e5
        exact jcX12_readExpression_30 hre hQ _ _ _ h v
      · have h := h.2
        have v := v.2
        intro e6
        have h := h e6
        have v := v e6
        exact jcX12_readExpression_25 hre (k30 := wX12_readExpression_30 re Q) (k30' := vX12_readExpression_30 re' Q') (k30'' := wX12_readExpression_30 re Q'') (fun _ _ _ h v => jcX12_readExpression_30 hre hQ _ _ _ h v) hQ _ _ h v
set_option maxRecDepth 100000 in
set_option maxHeartbeats 4000000 in
theorem jaX12_readExpression_b {re re' : Int32 → km_S → (km_S → Prop) → Prop} (hre : ∀ {P P' : km_S → Prop}, (∀ y0, P y0 → P' y0) → ∀ (x0 : Int32) (x1 : km_S), re x0 x1 P → re' x0 x1 P') {Q Q' : km_S → Prop} (hQ : ∀ y0, Q y0 → Q' y0) : ∀ (l1 : Int32) (μ : km_S), wX12_readExpression_b re l1 μ Q → vX12_readExpression_b re' l1 μ Q' := by
  intro l1 μ h
  unfold wX12_readExpression_b at h
  unfold vX12_readExpression_b
  refine ⟨?_, ?_⟩
  · have h := h.1
    intro e1
    have h := h e1
    exact jaX12_readExpression_25 hre (k30 := wX12_readExpression_30 re Q) (k30' := vX12_readExpression_30 re' Q') (fun _ _ _ h => jaX12_readExpression_30 hre hQ _ _ _ h) hQ _ _ h
  · have h := h.2
    intro e2
    have h := h e2
    refine ⟨?_, ?_⟩
    · have h := h.1
      intro e3
      have h := h e3
      exact jaX12_readExpression_25 hre (k30 := wX12_readExpression_30 re Q) (k30' := vX12_readExpression_30 re' Q') (fun _ _ _ h => jaX12_readExpression_30 hre hQ _ _ _ h) hQ _ _ h
    · have h := h.2
      intro e4
      have h := h e4
      refine jaX12_isSign ?_ _ _ h
      intro r24 μ23 h
      refine ⟨?_, ?_⟩
      · have h := h.1
        intro e5
        have h := h e5
        exact jaX12_readExpression_30 hre hQ _ _ _ h
      · have h := h.2
        intro e6
        have h := h e6
        exact jaX12_readExpression_25 hre (k30 := wX12_readExpression_30 re Q) (k30' := vX12_readExpression_30 re' Q') (fun _ _ _ h => jaX12_readExpression_30 hre hQ _ _ _ h) hQ _ _ h
set_option maxRecDepth 100000 in
set_option maxHeartbeats 4000000 in
theorem jfX12_readExpression_b {I : km_S → Prop} (W : gw_ I [56, 59, 60, 62, 63, 64, 65, 66, 67]) {re : Int32 → km_S → (km_S → Prop) → Prop} (hre : ∀ {P : km_S → Prop}, (∀ y0, I y0 → P y0) → ∀ (x0 : Int32) (x1 : km_S), I x1 → re x0 x1 P) {Q : km_S → Prop} (hQ : ∀ y0, I y0 → Q y0) : ∀ (l1 : Int32) (μ : km_S), I μ → vX12_readExpression_b re l1 μ Q := by
  intro l1 μ i
  unfold vX12_readExpression_b
  refine ⟨?_, ?_⟩
  · intro e1
    exact jfX12_readExpression_25 (I := I) (gw_sub W (by decide)) hre (k30 := vX12_readExpression_30 re Q) (fun _ _ _ i => jfX12_readExpression_30 (I := I) (gw_sub W (by decide)) hre hQ _ _ _ i) hQ _ _ i
  · intro e2
    refine ⟨?_, ?_⟩
    · intro e3
      exact jfX12_readExpression_25 (I := I) (gw_sub W (by decide)) hre (k30 := vX12_readExpression_30 re Q) (fun _ _ _ i => jfX12_readExpression_30 (I := I) (gw_sub W (by decide)) hre hQ _ _ _ i) hQ _ _ i
    · intro e4
      refine jfX12_isSign (I := I) (gw_sub W (by decide)) ?_ _ _ i
      intro r24 μ23 iμ23
      refine ⟨?_, ?_⟩
      · intro e5
        exact jfX12_readExpression_30 (I := I) (gw_sub W (by decide)) hre hQ _ _ _ iμ23
      · intro e6
        exact jfX12_readExpression_25 (I := I) (gw_sub W (by decide)) hre (k30 := vX12_readExpression_30 re Q) (fun _ _ _ i => jfX12_readExpression_30 (I := I) (gw_sub W (by decide)) hre hQ _ _ _ i) hQ _ _ iμ23
def vX12_readExpression : Nat → Int32 → km_S → (km_S → Prop) → Prop
  | 0, _, _, _ => True
  | D + 1, a, μ, Q => vX12_readExpression_b (vX12_readExpression D) a μ Q
theorem jcX12_readExpression : ∀ {P P' P'' : km_S → Prop}, (∀ u, P u → P' u → P'' u) → ∀ (D : Nat) (a : Int32) (μ : km_S), wX12_readExpression D a μ P → vX12_readExpression D a μ P' → wX12_readExpression D a μ P'' := by
  intro P P' P'' hP D
  induction D generalizing P P' P'' with
  | zero => intro a μ h; exact h.elim
  | succ D ih => intro a μ h v; exact jcX12_readExpression_b (re := wX12_readExpression D) (re' := vX12_readExpression D) (fun h9 => ih h9) hP _ _ h v
theorem jaX12_readExpression : ∀ {P P' : km_S → Prop}, (∀ u, P u → P' u) → ∀ (D : Nat) (a : Int32) (μ : km_S), wX12_readExpression D a μ P → vX12_readExpression D a μ P' := by
  intro P P' hP D
  induction D generalizing P P' with
  | zero => intro a μ h; exact h.elim
  | succ D ih => intro a μ h; exact jaX12_readExpression_b (re := wX12_readExpression D) (re' := vX12_readExpression D) (fun h9 => ih h9) hP _ _ h
theorem jfX12_readExpression {I : km_S → Prop} (W : gw_ I [56, 59, 60, 62, 63, 64, 65, 66, 67]) : ∀ {P : km_S → Prop}, (∀ u, I u → P u) → ∀ (D : Nat) (a : Int32) (μ : km_S), I μ → vX12_readExpression D a μ P := by
  intro P hP D
  induction D generalizing P with
  | zero => intro a μ i; exact trivial
  | succ D ih => intro a μ i; exact jfX12_readExpression_b (I := I) (gw_sub W (by decide)) (re := vX12_readExpression D) (fun h9 => ih h9) hP _ _ i
def vX12_readLaw_144 (k6 : Int32 → km_S → Prop) (Q : km_S → Prop) (l1 : Int32) (μ : km_S) : Prop := k6 l1 μ
set_option maxRecDepth 100000 in
set_option maxHeartbeats 4000000 in
theorem jcX12_readLaw_144 {k6 k6' k6'' : Int32 → km_S → Prop} (hk6 : ∀ y0 y1, k6 y0 y1 → k6' y0 y1 → k6'' y0 y1) {Q Q' Q'' : km_S → Prop} (hQ : ∀ y0, Q y0 → Q' y0 → Q'' y0) : ∀ (l1 : Int32) (μ : km_S), wX12_readLaw_144 k6 Q l1 μ → vX12_readLaw_144 k6' Q' l1 μ → wX12_readLaw_144 k6'' Q'' l1 μ := by
  intro l1 μ h v
  unfold wX12_readLaw_144 at h
  unfold vX12_readLaw_144 at v
  unfold wX12_readLaw_144
  exact hk6 _ _ h v
set_option maxRecDepth 100000 in
set_option maxHeartbeats 4000000 in
theorem jaX12_readLaw_144 {k6 k6' : Int32 → km_S → Prop} (hk6 : ∀ y0 y1, k6 y0 y1 → k6' y0 y1) {Q Q' : km_S → Prop} (hQ : ∀ y0, Q y0 → Q' y0) : ∀ (l1 : Int32) (μ : km_S), wX12_readLaw_144 k6 Q l1 μ → vX12_readLaw_144 k6' Q' l1 μ := by
  intro l1 μ h
  unfold wX12_readLaw_144 at h
  unfold vX12_readLaw_144
  exact hk6 _ _ h
set_option maxRecDepth 100000 in
set_option maxHeartbeats 4000000 in
theorem jfX12_readLaw_144 {I : km_S → Prop} (W : gw_ I []) {k6 : Int32 → km_S → Prop} (hk6 : ∀ y0 y1, I y1 → k6 y0 y1) {Q : km_S → Prop} (hQ : ∀ y0, I y0 → Q y0) : ∀ (l1 : Int32) (μ : km_S), I μ → vX12_readLaw_144 k6 Q l1 μ := by
  intro l1 μ i
  unfold vX12_readLaw_144
  exact hk6 _ _ i

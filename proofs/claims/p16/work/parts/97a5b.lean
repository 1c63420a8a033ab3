def vX12_readPart_35 (re : Int32 → km_S → (km_S → Prop) → Prop) (k200 : km_S → Prop) (Q : km_S → Prop) (μ : km_S) : Prop := ∀ v19, v19 = km_i μ 64 → ∀ j, vX12_readPart_42 re (vX12_readPart_78 re k200 Q) Q j 0 v19 μ
set_option maxRecDepth 100000 in
set_option maxHeartbeats 4000000 in
theorem jcX12_readPart_35 {re re' : Int32 → km_S → (km_S → Prop) → Prop} (hre : ∀ {P P' P'' : km_S → Prop}, (∀ y0, P y0 → P' y0 → P'' y0) → ∀ (x0 : Int32) (x1 : km_S), re x0 x1 P → re' x0 x1 P' → re x0 x1 P'') {k200 k200' k200'' : km_S → Prop} (hk200 : ∀ y0, k200 y0 → k200' y0 → k200'' y0) {Q Q' Q'' : km_S → Prop} (hQ : ∀ y0, Q y0 → Q' y0 → Q'' y0) : ∀ (μ : km_S), wX12_readPart_35 re k200 Q μ → vX12_readPart_35 re' k200' Q' μ → wX12_readPart_35 re k200'' Q'' μ := by
  intro μ h v
  unfold wX12_readPart_35 at h
  unfold vX12_readPart_35 at v
  unfold wX12_readPart_35
  intro v19 e1
  have h := h v19 e1
  have v := v v19 e1
  obtain ⟨j, h⟩ := h
  refine ⟨j, ?_⟩
  have v := v j
  exact jcX12_readPart_42 hre (k78 := wX12_readPart_78 re k200 Q) (k78' := vX12_readPart_78 re' k200' Q') (k78'' := wX12_readPart_78 re k200'' Q'') (fun _ _ h v => jcX12_readPart_78 hre hk200 hQ _ _ h v) hQ _ _ _ _ h v
set_option maxRecDepth 100000 in
set_option maxHeartbeats 4000000 in
theorem jaX12_readPart_35 {re re' : Int32 → km_S → (km_S → Prop) → Prop} (hre : ∀ {P P' : km_S → Prop}, (∀ y0, P y0 → P' y0) → ∀ (x0 : Int32) (x1 : km_S), re x0 x1 P → re' x0 x1 P') {k200 k200' : km_S → Prop} (hk200 : ∀ y0, k200 y0 → k200' y0) {Q Q' : km_S → Prop} (hQ : ∀ y0, Q y0 → Q' y0) : ∀ (μ : km_S), wX12_readPart_35 re k200 Q μ → vX12_readPart_35 re' k200' Q' μ := by
  intro μ h
  unfold wX12_readPart_35 at h
  unfold vX12_readPart_35
  intro v19 e1
  have h := h v19 e1
  obtain ⟨j, h⟩ := h
  intro j9
  exact jaX12_readPart_42 hre (k78 := wX12_readPart_78 re k200 Q) (k78' := vX12_readPart_78 re' k200' Q') (fun _ _ h => jaX12_readPart_78 hre hk200 hQ _ _ h) hQ _ j9 _ _ _ h
set_option maxRecDepth 100000 in
set_option maxHeartbeats 4000000 in
theorem jfX12_readPart_35 {I : km_S → Prop} (W : gw_ I [56, 59, 60, 62, 63, 64, 65, 66, 67]) {re : Int32 → km_S → (km_S → Prop) → Prop} (hre : ∀ {P : km_S → Prop}, (∀ y0, I y0 → P y0) → ∀ (x0 : Int32) (x1 : km_S), I x1 → re x0 x1 P) {k200 : km_S → Prop} (hk200 : ∀ y0, I y0 → k200 y0) {Q : km_S → Prop} (hQ : ∀ y0, I y0 → Q y0) : ∀ (μ : km_S), I μ → vX12_readPart_35 re k200 Q μ := by
  intro μ i
  unfold vX12_readPart_35
  intro v19 e1
  intro j
  exact jfX12_readPart_42 (I := I) (gw_sub W (by decide)) hre (k78 := vX12_readPart_78 re k200 Q) (fun _ _ i => jfX12_readPart_78 (I := I) (gw_sub W (by decide)) hre hk200 hQ _ _ i) hQ _ _ _ _ i
def vX12_readPart (re : Int32 → km_S → (km_S → Prop) → Prop) (l1 : Int32) (μ : km_S) (Q : km_S → Prop) : Prop := (((km_i μ 66) = 0 → ((¬ (km_i μ 62) = 2 → ((¬ (km_i μ 62) = 1 → vX12_isSign 40 μ (fun r25 μ24 => ((r25 = 0 → vX12_wrong 1 μ24 (fun μ27 => vX12_readPart_200 re Q μ27)) ∧ (¬ (r25 = 0) → vX12_step μ24 (fun μ28 => re (l1 + 1) μ28 (fun μ29 => ((¬ (km_i μ29 66) = 0 → vX12_readPart_200 re Q μ29) ∧ ((km_i μ29 66) = 0 → vX12_isSign 41 μ29 (fun r32 μ31 => ((¬ r32 = 0 → vX12_readPart_200 re Q μ31) ∧ (r32 = 0 → vX12_wrong 1 μ31 (fun μ34 => vX12_readPart_200 re Q μ34)))))))))))) ∧ ((km_i μ 62) = 1 → ∀ j, vX12_readPart_103 re (vX12_readPart_130 re (vX12_readPart_200 re Q) Q) Q j (-1) 0 μ))) ∧ ((km_i μ 62) = 2 → ((((km_i μ 65) - (km_i μ 64)) ≤ 6 → vX12_readPart_35 re (vX12_readPart_200 re Q) Q μ) ∧ (¬ (((km_i μ 65) - (km_i μ 64)) ≤ 6) → vX12_wrong 2 μ (fun μ37 => vX12_readPart_35 re (vX12_readPart_200 re Q) Q μ37)))))) ∧ (¬ ((km_i μ 66) = 0) → Q μ))
set_option maxRecDepth 100000 in
set_option maxHeartbeats 4000000 in
theorem jcX12_readPart {re re' : Int32 → km_S → (km_S → Prop) → Prop} (hre : ∀ {P P' P'' : km_S → Prop}, (∀ y0, P y0 → P' y0 → P'' y0) → ∀ (x0 : Int32) (x1 : km_S), re x0 x1 P → re' x0 x1 P' → re x0 x1 P'') {Q Q' Q'' : km_S → Prop} (hQ : ∀ y0, Q y0 → Q' y0 → Q'' y0) : ∀ (l1 : Int32) (μ : km_S), wX12_readPart re l1 μ Q → vX12_readPart re' l1 μ Q' → wX12_readPart re l1 μ Q'' := by
  intro l1 μ h v
  unfold wX12_readPart at h
  unfold vX12_readPart at v
  unfold wX12_readPart
  refine ⟨?_, ?_⟩
  · have h := h.1
    have v := v.1
    intro e1
    have h := h e1
    have v := v e1
    refine ⟨?_, ?_⟩
    · have h := h.1
      have v := v.1
      intro e2
      have h := h e2
      have v := v e2
      refine ⟨?_, ?_⟩
      · have h := h.1
        have v := v.1
        intro e3
        have h := h e3
        have v := v e3
        refine jcX12_isSign ?_ _ _ h v
        intro r25 μ24 h v
        refine ⟨?_, ?_⟩
        · have h := h.1
          have v := v.1
          intro e4
          have h := h e4
          have v := v e4
          refine jcX12_wrong ?_ _ _ h v
          intro μ27 h v
          exact jcX12_readPart_200 hre hQ _ h v
        · have h := h.2
          have v := v.2
          intro e5
          have h := h e5
          have v := v e5
          refine jcX12_step ?_ _ h v
          intro μ28 h v
          refine hre ?_ _ _ h v
          intro μ29 h v
          refine ⟨?_, ?_⟩
          · have h := h.1
            have v := v.1
            intro e6
            have h := h e6
            have v := v e6
            exact jcX12_readPart_200 hre hQ _ h v
          · have h := h.2
            have v := v.2
            intro e7
            have h := h e7
            have v := v e7
            refine jcX12_isSign ?_ _ _ h v
            intro r32 μ31 h v
            refine ⟨?_, ?_⟩
            · have h := h.1
              have v := v.1
              intro e8
              have h := h e8
              have v := v e8
              exact jcX12_readPart_200 hre hQ _ h v
            · have h := h.2
              have v := v.2
              intro e9
              have h := h e9
              have v := v e9
              refine jcX12_wrong ?_ _ _ h v
              intro μ34 h v
              exact jcX12_readPart_200 hre hQ _ h v
      · have h := h.2
        have v := v.2
        intro e10
        have h := h e10
        have v := v e10
        obtain ⟨j, h⟩ := h
        refine ⟨j, ?_⟩
        have v := v j
        exact jcX12_readPart_103 hre (k130 := wX12_readPart_130 re (wX12_readPart_200 re Q) Q) (k130' := vX12_readPart_130 re' (vX12_readPart_200 re' Q') Q') (k130'' := wX12_readPart_130 re (wX12_readPart_200 re Q'') Q'') (fun _ _ h v => jcX12_readPart_130 hre (k200 := wX12_readPart_200 re Q) (k200' := vX12_readPart_200 re' Q') (k200'' := wX12_readPart_200 re Q'') (fun _ h v => jcX12_readPart_200 hre hQ _ h v) hQ _ _ h v) hQ _ _ _ _ h v
    · have h := h.2
      have v := v.2
      intro e11
      have h := h e11
      have v := v e11
      refine ⟨?_, ?_⟩
      · have h := h.1
        have v := v.1
        intro e12
        have h := h e12
        have v := v e12
        exact jcX12_readPart_35 hre (k200 := wX12_readPart_200 re Q) (k200' := vX12_readPart_200 re' Q') (k200'' := wX12_readPart_200 re Q'') (fun _ h v => jcX12_readPart_200 hre hQ _ h v) hQ _ h v
      · have h := h.2
        have v := v.2
        intro e13
        have h := h e13
        have v := v e13
        refine jcX12_wrong ?_ _ _ h v
        intro μ37 h v
        exact jcX12_readPart_35 hre (k200 := wX12_readPart_200 re Q) (k200' := vX12_readPart_200 re' Q') (k200'' := wX12_readPart_200 re Q'') (fun _ h v => jcX12_readPart_200 hre hQ _ h v) hQ _ h v
  · have h := h.2
    have v := v.2
    intro e14
    have h := h e14
    have v := v e14
    exact hQ _ h v
set_option maxRecDepth 100000 in
set_option maxHeartbeats 4000000 in
theorem jaX12_readPart {re re' : Int32 → km_S → (km_S → Prop) → Prop} (hre : ∀ {P P' : km_S → Prop}, (∀ y0, P y0 → P' y0) → ∀ (x0 : Int32) (x1 : km_S), re x0 x1 P → re' x0 x1 P') {Q Q' : km_S → Prop} (hQ : ∀ y0, Q y0 → Q' y0) : ∀ (l1 : Int32) (μ : km_S), wX12_readPart re l1 μ Q → vX12_readPart re' l1 μ Q' := by
  intro l1 μ h
  unfold wX12_readPart at h
  unfold vX12_readPart
  refine ⟨?_, ?_⟩
  · have h := h.1
    intro e1
    have h := h e1
    refine ⟨?_, ?_⟩
    · have h := h.1
      intro e2
      have h := h e2
      refine ⟨?_, ?_⟩
      · have h := h.1
        intro e3
        have h := h e3
        refine jaX12_isSign ?_ _ _ h
        intro r25 μ24 h
        refine ⟨?_, ?_⟩
        · have h := h.1
          intro e4
          have h := h e4
          refine jaX12_wrong ?_ _ _ h
          intro μ27 h
          exact jaX12_readPart_200 hre hQ _ h
        · have h := h.2
          intro e5
          have h := h e5
          refine jaX12_step ?_ _ h
          intro μ28 h
          refine hre ?_ _ _ h
          intro μ29 h
          refine ⟨?_, ?_⟩
          · have h := h.1
            intro e6
            have h := h e6
            exact jaX12_readPart_200 hre hQ _ h
          · have h := h.2
            intro e7
            have h := h e7
            refine jaX12_isSign ?_ _ _ h
            intro r32 μ31 h
            refine ⟨?_, ?_⟩
            · have h := h.1
              intro e8
              have h := h e8
              exact jaX12_readPart_200 hre hQ _ h
            · have h := h.2
              intro e9
              have h := h e9
              refine jaX12_wrong ?_ _ _ h
              intro μ34 h
              exact jaX12_readPart_200 hre hQ _ h
      · have h := h.2
        intro e10
        have h := h e10
        obtain ⟨j, h⟩ := h
        intro j9
        exact jaX12_readPart_103 hre (k130 := wX12_readPart_130 re (wX12_readPart_200 re Q) Q) (k130' := vX12_readPart_130 re' (vX12_readPart_200 re' Q') Q') (fun _ _ h => jaX12_readPart_130 hre (k200 := wX12_readPart_200 re Q) (k200' := vX12_readPart_200 re' Q') (fun _ h => jaX12_readPart_200 hre hQ _ h) hQ _ _ h) hQ _ j9 _ _ _ h
    · have h := h.2
      intro e11
      have h := h e11
      refine ⟨?_, ?_⟩
      · have h := h.1
        intro e12
        have h := h e12
        exact jaX12_readPart_35 hre (k200 := wX12_readPart_200 re Q) (k200' := vX12_readPart_200 re' Q') (fun _ h => jaX12_readPart_200 hre hQ _ h) hQ _ h
      · have h := h.2
        intro e13
        have h := h e13
        refine jaX12_wrong ?_ _ _ h
        intro μ37 h
        exact jaX12_readPart_35 hre (k200 := wX12_readPart_200 re Q) (k200' := vX12_readPart_200 re' Q') (fun _ h => jaX12_readPart_200 hre hQ _ h) hQ _ h
  · have h := h.2
    intro e14
    have h := h e14
    exact hQ _ h
set_option maxRecDepth 100000 in
set_option maxHeartbeats 4000000 in
theorem jfX12_readPart {I : km_S → Prop} (W : gw_ I [56, 59, 60, 62, 63, 64, 65, 66, 67]) {re : Int32 → km_S → (km_S → Prop) → Prop} (hre : ∀ {P : km_S → Prop}, (∀ y0, I y0 → P y0) → ∀ (x0 : Int32) (x1 : km_S), I x1 → re x0 x1 P) {Q : km_S → Prop} (hQ : ∀ y0, I y0 → Q y0) : ∀ (l1 : Int32) (μ : km_S), I μ → vX12_readPart re l1 μ Q := by
  intro l1 μ i
  unfold vX12_readPart
  refine ⟨?_, ?_⟩
  · intro e1
    refine ⟨?_, ?_⟩
    · intro e2
      refine ⟨?_, ?_⟩
      · intro e3
        refine jfX12_isSign (I := I) (gw_sub W (by decide)) ?_ _ _ i
        intro r25 μ24 iμ24
        refine ⟨?_, ?_⟩
        · intro e4
          refine jfX12_wrong (I := I) (gw_sub W (by decide)) ?_ _ _ iμ24
          intro μ27 iμ27
          exact jfX12_readPart_200 (I := I) (gw_sub W (by decide)) hre hQ _ iμ27
        · intro e5
          refine jfX12_step (I := I) (gw_sub W (by decide)) ?_ _ iμ24
          intro μ28 iμ28
          refine hre ?_ _ _ iμ28
          intro μ29 iμ29
          refine ⟨?_, ?_⟩
          · intro e6
            exact jfX12_readPart_200 (I := I) (gw_sub W (by decide)) hre hQ _ iμ29
          · intro e7
            refine jfX12_isSign (I := I) (gw_sub W (by decide)) ?_ _ _ iμ29
            intro r32 μ31 iμ31
            refine ⟨?_, ?_⟩
            · intro e8
              exact jfX12_readPart_200 (I := I) (gw_sub W (by decide)) hre hQ _ iμ31
            · intro e9
              refine jfX12_wrong (I := I) (gw_sub W (by decide)) ?_ _ _ iμ31
              intro μ34 iμ34
              exact jfX12_readPart_200 (I := I) (gw_sub W (by decide)) hre hQ _ iμ34
      · intro e10
        intro j
        exact jfX12_readPart_103 (I := I) (gw_sub W (by decide)) hre (k130 := vX12_readPart_130 re (vX12_readPart_200 re Q) Q) (fun _ _ i => jfX12_readPart_130 (I := I) (gw_sub W (by decide)) hre (k200 := vX12_readPart_200 re Q) (fun _ i => jfX12_readPart_200 (I := I) (gw_sub W (by decide)) hre hQ _ i) hQ _ _ i) hQ _ _ _ _ i
    · intro e11
      refine ⟨?_, ?_⟩
      · intro e12
        exact jfX12_readPart_35 (I := I) (gw_sub W (by decide)) hre (k200 := vX12_readPart_200 re Q) (fun _ i => jfX12_readPart_200 (I := I) (gw_sub W (by decide)) hre hQ _ i) hQ _ i
      · intro e13
        refine jfX12_wrong (I := I) (gw_sub W (by decide)) ?_ _ _ i
        intro μ37 iμ37
        exact jfX12_readPart_35 (I := I) (gw_sub W (by decide)) hre (k200 := vX12_readPart_200 re Q) (fun _ i => jfX12_readPart_200 (I := I) (gw_sub W (by decide)) hre hQ _ i) hQ _ iμ37
  · intro e14
    exact hQ _ i
def vX12_readTerm_44 (re : Int32 → km_S → (km_S → Prop) → Prop) (k5 : Int32 → km_S → Prop) (Q : km_S → Prop) (l1 : Int32) (s0 : Int32) (μ : km_S) : Prop := vX12_step μ (fun μ1 => vX12_readPart re l1 μ1 (fun μ2 => vX12_emit s0 μ2 (fun μ3 => k5 l1 μ3)))
set_option maxRecDepth 100000 in
set_option maxHeartbeats 4000000 in
theorem jcX12_readTerm_44 {re re' : Int32 → km_S → (km_S → Prop) → Prop} (hre : ∀ {P P' P'' : km_S → Prop}, (∀ y0, P y0 → P' y0 → P'' y0) → ∀ (x0 : Int32) (x1 : km_S), re x0 x1 P → re' x0 x1 P' → re x0 x1 P'') {k5 k5' k5'' : Int32 → km_S → Prop} (hk5 : ∀ y0 y1, k5 y0 y1 → k5' y0 y1 → k5'' y0 y1) {Q Q' Q'' : km_S → Prop} (hQ : ∀ y0, Q y0 → Q' y0 → Q'' y0) : ∀ (l1 : Int32) (s0 : Int32) (μ : km_S), wX12_readTerm_44 re k5 Q l1 s0 μ → vX12_readTerm_44 re' k5' Q' l1 s0 μ → wX12_readTerm_44 re k5'' Q'' l1 s0 μ := by
  intro l1 s0 μ h v
  unfold wX12_readTerm_44 at h
  unfold vX12_readTerm_44 at v
  unfold wX12_readTerm_44
  refine jcX12_step ?_ _ h v
  intro μ1 h v
  refine jcX12_readPart hre ?_ _ _ h v
  intro μ2 h v
  refine jcX12_emit ?_ _ _ h v
  intro μ3 h v
  exact hk5 _ _ h v
set_option maxRecDepth 100000 in
set_option maxHeartbeats 4000000 in
theorem jaX12_readTerm_44 {re re' : Int32 → km_S → (km_S → Prop) → Prop} (hre : ∀ {P P' : km_S → Prop}, (∀ y0, P y0 → P' y0) → ∀ (x0 : Int32) (x1 : km_S), re x0 x1 P → re' x0 x1 P') {k5 k5' : Int32 → km_S → Prop} (hk5 : ∀ y0 y1, k5 y0 y1 → k5' y0 y1) {Q Q' : km_S → Prop} (hQ : ∀ y0, Q y0 → Q' y0) : ∀ (l1 : Int32) (s0 : Int32) (μ : km_S), wX12_readTerm_44 re k5 Q l1 s0 μ → vX12_readTerm_44 re' k5' Q' l1 s0 μ := by
  intro l1 s0 μ h
  unfold wX12_readTerm_44 at h
  unfold vX12_readTerm_44
  refine jaX12_step ?_ _ h
  intro μ1 h
  refine jaX12_readPart hre ?_ _ _ h
  intro μ2 h
  refine jaX12_emit ?_ _ _ h
  intro μ3 h
  exact hk5 _ _ h
set_option maxRecDepth 100000 in
set_option maxHeartbeats 4000000 in
theorem jfX12_readTerm_44 {I : km_S → Prop} (W : gw_ I [56, 59, 60, 62, 63, 64, 65, 66, 67]) {re : Int32 → km_S → (km_S → Prop) → Prop} (hre : ∀ {P : km_S → Prop}, (∀ y0, I y0 → P y0) → ∀ (x0 : Int32) (x1 : km_S), I x1 → re x0 x1 P) {k5 : Int32 → km_S → Prop} (hk5 : ∀ y0 y1, I y1 → k5 y0 y1) {Q : km_S → Prop} (hQ : ∀ y0, I y0 → Q y0) : ∀ (l1 : Int32) (s0 : Int32) (μ : km_S), I μ → vX12_readTerm_44 re k5 Q l1 s0 μ := by
  intro l1 s0 μ i
  unfold vX12_readTerm_44
  refine jfX12_step (I := I) (gw_sub W (by decide)) ?_ _ i
  intro μ1 iμ1
  refine jfX12_readPart (I := I) (gw_sub W (by decide)) hre ?_ _ _ iμ1
  intro μ2 iμ2
  refine jfX12_emit (I := I) (gw_sub W (by decide)) ?_ _ _ iμ2
  intro μ3 iμ3
  exact hk5 _ _ iμ3
def vX12_readTerm_30 (re : Int32 → km_S → (km_S → Prop) → Prop) (k5 : Int32 → km_S → Prop) (Q : km_S → Prop) (l1 : Int32) (μ : km_S) : Prop := vX12_isSign 42 μ (fun r5 μ4 => ((r5 = 0 → vX12_readTerm_44 re k5 Q l1 4 μ4) ∧ (¬ (r5 = 0) → vX12_readTerm_44 re k5 Q l1 3 μ4)))
set_option maxRecDepth 100000 in
set_option maxHeartbeats 4000000 in
theorem jcX12_readTerm_30 {re re' : Int32 → km_S → (km_S → Prop) → Prop} (hre : ∀ {P P' P'' : km_S → Prop}, (∀ y0, P y0 → P' y0 → P'' y0) → ∀ (x0 : Int32) (x1 : km_S), re x0 x1 P → re' x0 x1 P' → re x0 x1 P'') {k5 k5' k5'' : Int32 → km_S → Prop} (hk5 : ∀ y0 y1, k5 y0 y1 → k5' y0 y1 → k5'' y0 y1) {Q Q' Q'' : km_S → Prop} (hQ : ∀ y0, Q y0 → Q' y0 → Q'' y0) : ∀ (l1 : Int32) (μ : km_S), wX12_readTerm_30 re k5 Q l1 μ → vX12_readTerm_30 re' k5' Q' l1 μ → wX12_readTerm_30 re k5'' Q'' l1 μ := by
  intro l1 μ h v
  unfold wX12_readTerm_30 at h
  unfold vX12_readTerm_30 at v
  unfold wX12_readTerm_30
  refine jcX12_isSign ?_ _ _ h v
  intro r5 μ4 h v
  refine ⟨?_, ?_⟩
  · have h := h.1
    have v := v.1
    intro e1
    have h := h e1
    have v := v e1
    exact jcX12_readTerm_44 hre hk5 hQ _ _ _ h v
  · have h := h.2
    have v := v.2
    intro e2
    have h := h e2
    have v := v e2
    exact jcX12_readTerm_44 hre hk5 hQ _ _ _ h v
set_option maxRecDepth 100000 in
set_option maxHeartbeats 4000000 in
theorem jaX12_readTerm_30 {re re' : Int32 → km_S → (km_S → Prop) → Prop} (hre : ∀ {P P' : km_S → Prop}, (∀ y0, P y0 → P' y0) → ∀ (x0 : Int32) (x1 : km_S), re x0 x1 P → re' x0 x1 P') {k5 k5' : Int32 → km_S → Prop} (hk5 : ∀ y0 y1, k5 y0 y1 → k5' y0 y1) {Q Q' : km_S → Prop} (hQ : ∀ y0, Q y0 → Q' y0) : ∀ (l1 : Int32) (μ : km_S), wX12_readTerm_30 re k5 Q l1 μ → vX12_readTerm_30 re' k5' Q' l1 μ := by
  intro l1 μ h
  unfold wX12_readTerm_30 at h
  unfold vX12_readTerm_30
  refine jaX12_isSign ?_ _ _ h
  intro r5 μ4 h
  refine ⟨?_, ?_⟩
  · have h := h.1
    intro e1
    have h := h e1
    exact jaX12_readTerm_44 hre hk5 hQ _ _ _ h
  · have h := h.2
    intro e2
    have h := h e2
    exact jaX12_readTerm_44 hre hk5 hQ _ _ _ h
set_option maxRecDepth 100000 in
set_option maxHeartbeats 4000000 in
theorem jfX12_readTerm_30 {I : km_S → Prop} (W : gw_ I [56, 59, 60, 62, 63, 64, 65, 66, 67]) {re : Int32 → km_S → (km_S → Prop) → Prop} (hre : ∀ {P : km_S → Prop}, (∀ y0, I y0 → P y0) → ∀ (x0 : Int32) (x1 : km_S), I x1 → re x0 x1 P) {k5 : Int32 → km_S → Prop} (hk5 : ∀ y0 y1, I y1 → k5 y0 y1) {Q : km_S → Prop} (hQ : ∀ y0, I y0 → Q y0) : ∀ (l1 : Int32) (μ : km_S), I μ → vX12_readTerm_30 re k5 Q l1 μ := by
  intro l1 μ i
  unfold vX12_readTerm_30
  refine jfX12_isSign (I := I) (gw_sub W (by decide)) ?_ _ _ i
  intro r5 μ4 iμ4
  refine ⟨?_, ?_⟩
  · intro e1
    exact jfX12_readTerm_44 (I := I) (gw_sub W (by decide)) hre hk5 hQ _ _ _ iμ4
  · intro e2
    exact jfX12_readTerm_44 (I := I) (gw_sub W (by decide)) hre hk5 hQ _ _ _ iμ4
def vX12_readTerm_5 (re : Int32 → km_S → (km_S → Prop) → Prop) (Q : km_S → Prop) : Nat → Int32 → km_S → Prop
  | 0, _, _ => True
  | n + 1, l1, μ => ((¬ (km_i μ 66) = 0 → Q μ) ∧ ((km_i μ 66) = 0 → vX12_isSign 42 μ (fun r9 μ8 => ((¬ r9 = 0 → vX12_readTerm_30 re (vX12_readTerm_5 re Q n) Q l1 μ8) ∧ (r9 = 0 → vX12_isSign 47 μ8 (fun r12 μ11 => ((r12 = 0 → Q μ11) ∧ (¬ (r12 = 0) → vX12_readTerm_30 re (vX12_readTerm_5 re Q n) Q l1 μ11))))))))
set_option maxRecDepth 100000 in
set_option maxHeartbeats 4000000 in
theorem jcX12_readTerm_5 {re re' : Int32 → km_S → (km_S → Prop) → Prop} (hre : ∀ {P P' P'' : km_S → Prop}, (∀ y0, P y0 → P' y0 → P'' y0) → ∀ (x0 : Int32) (x1 : km_S), re x0 x1 P → re' x0 x1 P' → re x0 x1 P'') {Q Q' Q'' : km_S → Prop} (hQ : ∀ y0, Q y0 → Q' y0 → Q'' y0) : ∀ (n : Nat) (l1 : Int32) (μ : km_S), wX12_readTerm_5 re Q n l1 μ → vX12_readTerm_5 re' Q' n l1 μ → wX12_readTerm_5 re Q'' n l1 μ := by
  intro n
  induction n with
  | zero => intro l1 μ h; exact h.elim
  | succ n ih =>
    intro l1 μ h v
    unfold wX12_readTerm_5 at h
    unfold vX12_readTerm_5 at v
    unfold wX12_readTerm_5
    refine ⟨?_, ?_⟩
    · have h := h.1
      have v := v.1
      intro e1
      have h := h e1
      have v := v e1
      exact hQ _ h v
    · have h := h.2
      have v := v.2
      intro e2
      have h := h e2
      have v := v e2
      refine jcX12_isSign ?_ _ _ h v
      intro r9 μ8 h v
      refine ⟨?_, ?_⟩
      · have h := h.1
        have v := v.1
        intro e3
        have h := h e3
        have v := v e3
        exact jcX12_readTerm_30 hre (k5 := wX12_readTerm_5 re Q n) (k5' := vX12_readTerm_5 re' Q' n) (k5'' := wX12_readTerm_5 re Q'' n) (fun _ _ h v => ih _ _ h v) hQ _ _ h v
      · have h := h.2
        have v := v.2
        intro e4
        have h := h e4
        have v := v e4
        refine jcX12_isSign ?_ _ _ h v
        intro r12 μ11 h v
        refine ⟨?_, ?_⟩
        · have h := h.1
          have v := v.1
          intro e5
          have h := h e5
          have v := v e5
          exact hQ _ h v
        · have h := h.2
          have v := v.2
          intro e6
          have h := h e6
          have v := v e6
          exact jcX12_readTerm_30 hre (k5 := wX12_readTerm_5 re Q n) (k5' := vX12_readTerm_5 re' Q' n) (k5'' := wX12_readTerm_5 re Q'' n) (fun _ _ h v => ih _ _ h v) hQ _ _ h v
set_option maxRecDepth 100000 in
set_option maxHeartbeats 4000000 in
theorem jaX12_readTerm_5 {re re' : Int32 → km_S → (km_S → Prop) → Prop} (hre : ∀ {P P' : km_S → Prop}, (∀ y0, P y0 → P' y0) → ∀ (x0 : Int32) (x1 : km_S), re x0 x1 P → re' x0 x1 P') {Q Q' : km_S → Prop} (hQ : ∀ y0, Q y0 → Q' y0) : ∀ (n m : Nat) (l1 : Int32) (μ : km_S), wX12_readTerm_5 re Q n l1 μ → vX12_readTerm_5 re' Q' m l1 μ := by
  intro n
  induction n with
  | zero => intro m l1 μ h; exact h.elim
  | succ n ih =>
    intro m l1 μ h
    cases m with
    | zero => exact trivial
    | succ m =>
      unfold wX12_readTerm_5 at h
      unfold vX12_readTerm_5
      refine ⟨?_, ?_⟩
      · have h := h.1
        intro e1
        have h := h e1
        exact hQ _ h
      · have h := h.2
        intro e2
        have h := h e2
        refine jaX12_isSign ?_ _ _ h
        intro r9 μ8 h
        refine ⟨?_, ?_⟩
        · have h := h.1
          intro e3
          have h := h e3
          exact jaX12_readTerm_30 hre (k5 := wX12_readTerm_5 re Q n) (k5' := vX12_readTerm_5 re' Q' m) (fun _ _ h => ih m _ _ h) hQ _ _ h
        · have h := h.2
          intro e4
          have h := h e4
          refine jaX12_isSign ?_ _ _ h
          intro r12 μ11 h
          refine ⟨?_, ?_⟩
          · have h := h.1
            intro e5
            have h := h e5
            exact hQ _ h
          · have h := h.2
            intro e6
            have h := h e6
            exact jaX12_readTerm_30 hre (k5 := wX12_readTerm_5 re Q n) (k5' := vX12_readTerm_5 re' Q' m) (fun _ _ h => ih m _ _ h) hQ _ _ h
set_option maxRecDepth 100000 in
set_option maxHeartbeats 4000000 in
theorem jfX12_readTerm_5 {I : km_S → Prop} (W : gw_ I [56, 59, 60, 62, 63, 64, 65, 66, 67]) {re : Int32 → km_S → (km_S → Prop) → Prop} (hre : ∀ {P : km_S → Prop}, (∀ y0, I y0 → P y0) → ∀ (x0 : Int32) (x1 : km_S), I x1 → re x0 x1 P) {Q : km_S → Prop} (hQ : ∀ y0, I y0 → Q y0) : ∀ (n : Nat) (l1 : Int32) (μ : km_S), I μ → vX12_readTerm_5 re Q n l1 μ := by
  intro n
  induction n with
  | zero => intro l1 μ i; exact trivial
  | succ n ih =>
    intro l1 μ i
    unfold vX12_readTerm_5
    refine ⟨?_, ?_⟩
    · intro e1
      exact hQ _ i
    · intro e2
      refine jfX12_isSign (I := I) (gw_sub W (by decide)) ?_ _ _ i
      intro r9 μ8 iμ8
      refine ⟨?_, ?_⟩
      · intro e3
        exact jfX12_readTerm_30 (I := I) (gw_sub W (by decide)) hre (k5 := vX12_readTerm_5 re Q n) (fun _ _ i => ih _ _ i) hQ _ _ iμ8
      · intro e4
        refine jfX12_isSign (I := I) (gw_sub W (by decide)) ?_ _ _ iμ8
        intro r12 μ11 iμ11
        refine ⟨?_, ?_⟩
        · intro e5
          exact hQ _ iμ11
        · intro e6
          exact jfX12_readTerm_30 (I := I) (gw_sub W (by decide)) hre (k5 := vX12_readTerm_5 re Q n) (fun _ _ i => ih _ _ i) hQ _ _ iμ11
def vX12_readTerm (re : Int32 → km_S → (km_S → Prop) → Prop) (l1 : Int32) (μ : km_S) (Q : km_S → Prop) : Prop := vX12_readPart re l1 μ (fun μ14 => ∀ j, vX12_readTerm_5 re Q j l1 μ14)
set_option maxRecDepth 100000 in
set_option maxHeartbeats 4000000 in
theorem jcX12_readTerm {re re' : Int32 → km_S → (km_S → Prop) → Prop} (hre : ∀ {P P' P'' : km_S → Prop}, (∀ y0, P y0 → P' y0 → P'' y0) → ∀ (x0 : Int32) (x1 : km_S), re x0 x1 P → re' x0 x1 P' → re x0 x1 P'') {Q Q' Q'' : km_S → Prop} (hQ : ∀ y0, Q y0 → Q' y0 → Q'' y0) : ∀ (l1 : Int32) (μ : km_S), wX12_readTerm re l1 μ Q → vX12_readTerm re' l1 μ Q' → wX12_readTerm re l1 μ Q'' := by
  intro l1 μ h v
  unfold wX12_readTerm at h
  unfold vX12_readTerm at v
  unfold wX12_readTerm
  refine jcX12_readPart hre ?_ _ _ h v
  intro μ14 h v
  obtain ⟨j, h⟩ := h
  refine ⟨j, ?_⟩
  have v := v j
  exact jcX12_readTerm_5 hre hQ _ _ _ h v
set_option maxRecDepth 100000 in
set_option maxHeartbeats 4000000 in
theorem jaX12_readTerm {re re' : Int32 → km_S → (km_S → Prop) → Prop} (hre : ∀ {P P' : km_S → Prop}, (∀ y0, P y0 → P' y0) → ∀ (x0 : Int32) (x1 : km_S), re x0 x1 P → re' x0 x1 P') {Q Q' : km_S → Prop} (hQ : ∀ y0, Q y0 → Q' y0) : ∀ (l1 : Int32) (μ : km_S), wX12_readTerm re l1 μ Q → vX12_readTerm re' l1 μ Q' := by
  intro l1 μ h
  unfold wX12_readTerm at h
  unfold vX12_readTerm
  refine jaX12_readPart hre ?_ _ _ h
  intro μ14 h
  obtain ⟨j, h⟩ := h
  intro j9
  exact jaX12_readTerm_5 hre hQ _ j9 _ _ h
set_option maxRecDepth 100000 in
set_option maxHeartbeats 4000000 in
theorem jfX12_readTerm {I : km_S → Prop} (W : gw_ I [56, 59, 60, 62, 63, 64, 65, 66, 67]) {re : Int32 → km_S → (km_S → Prop) → Prop} (hre : ∀ {P : km_S → Prop}, (∀ y0, I y0 → P y0) → ∀ (x0 : Int32) (x1 : km_S), I x1 → re x0 x1 P) {Q : km_S → Prop} (hQ : ∀ y0, I y0 → Q y0) : ∀ (l1 : Int32) (μ : km_S), I μ → vX12_readTerm re l1 μ Q := by
  intro l1 μ i
  unfold vX12_readTerm
  refine jfX12_readPart (I := I) (gw_sub W (by decide)) hre ?_ _ _ i
  intro μ14 iμ14
  intro j
  exact jfX12_readTerm_5 (I := I) (gw_sub W (by decide)) hre hQ _ _ _ iμ14
def vX12_readSum_44 (re : Int32 → km_S → (km_S → Prop) → Prop) (k5 : Int32 → km_S → Prop) (Q : km_S → Prop) (l1 : Int32) (s0 : Int32) (μ : km_S) : Prop := vX12_step μ (fun μ1 => vX12_readTerm re l1 μ1 (fun μ2 => vX12_emit s0 μ2 (fun μ3 => k5 l1 μ3)))
set_option maxRecDepth 100000 in
set_option maxHeartbeats 4000000 in
theorem jcX12_readSum_44 {re re' : Int32 → km_S → (km_S → Prop) → Prop} (hre : ∀ {P P' P'' : km_S → Prop}, (∀ y0, P y0 → P' y0 → P'' y0) → ∀ (x0 : Int32) (x1 : km_S), re x0 x1 P → re' x0 x1 P' → re x0 x1 P'') {k5 k5' k5'' : Int32 → km_S → Prop} (hk5 : ∀ y0 y1, k5 y0 y1 → k5' y0 y1 → k5'' y0 y1) {Q Q' Q'' : km_S → Prop} (hQ : ∀ y0, Q y0 → Q' y0 → Q'' y0) : ∀ (l1 : Int32) (s0 : Int32) (μ : km_S), wX12_readSum_44 re k5 Q l1 s0 μ → vX12_readSum_44 re' k5' Q' l1 s0 μ → wX12_readSum_44 re k5'' Q'' l1 s0 μ := by
  intro l1 s0 μ h v
  unfold wX12_readSum_44 at h
  unfold vX12_readSum_44 at v
  unfold wX12_readSum_44
  refine jcX12_step ?_ _ h v
  intro μ1 h v
  refine jcX12_readTerm hre ?_ _ _ h v
  intro μ2 h v
  refine jcX12_emit ?_ _ _ h v
  intro μ3 h v
  exact hk5 _ _ h v
set_option maxRecDepth 100000 in
set_option maxHeartbeats 4000000 in
theorem jaX12_readSum_44 {re re' : Int32 → km_S → (km_S → Prop) → Prop} (hre : ∀ {P P' : km_S → Prop}, (∀ y0, P y0 → P' y0) → ∀ (x0 : Int32) (x1 : km_S), re x0 x1 P → re' x0 x1 P') {k5 k5' : Int32 → km_S → Prop} (hk5 : ∀ y0 y1, k5 y0 y1 → k5' y0 y1) {Q Q' : km_S → Prop} (hQ : ∀ y0, Q y0 → Q' y0) : ∀ (l1 : Int32) (s0 : Int32) (μ : km_S), wX12_readSum_44 re k5 Q l1 s0 μ → vX12_readSum_44 re' k5' Q' l1 s0 μ := by
  intro l1 s0 μ h
  unfold wX12_readSum_44 at h
  unfold vX12_readSum_44
  refine jaX12_step ?_ _ h
  intro μ1 h
  refine jaX12_readTerm hre ?_ _ _ h
  intro μ2 h
  refine jaX12_emit ?_ _ _ h
  intro μ3 h
  exact hk5 _ _ h
set_option maxRecDepth 100000 in
set_option maxHeartbeats 4000000 in
theorem jfX12_readSum_44 {I : km_S → Prop} (W : gw_ I [56, 59, 60, 62, 63, 64, 65, 66, 67]) {re : Int32 → km_S → (km_S → Prop) → Prop} (hre : ∀ {P : km_S → Prop}, (∀ y0, I y0 → P y0) → ∀ (x0 : Int32) (x1 : km_S), I x1 → re x0 x1 P) {k5 : Int32 → km_S → Prop} (hk5 : ∀ y0 y1, I y1 → k5 y0 y1) {Q : km_S → Prop} (hQ : ∀ y0, I y0 → Q y0) : ∀ (l1 : Int32) (s0 : Int32) (μ : km_S), I μ → vX12_readSum_44 re k5 Q l1 s0 μ := by
  intro l1 s0 μ i
  unfold vX12_readSum_44
  refine jfX12_step (I := I) (gw_sub W (by decide)) ?_ _ i
  intro μ1 iμ1
  refine jfX12_readTerm (I := I) (gw_sub W (by decide)) hre ?_ _ _ iμ1
  intro μ2 iμ2
  refine jfX12_emit (I := I) (gw_sub W (by decide)) ?_ _ _ iμ2
  intro μ3 iμ3
  exact hk5 _ _ iμ3
def vX12_readSum_30 (re : Int32 → km_S → (km_S → Prop) → Prop) (k5 : Int32 → km_S → Prop) (Q : km_S → Prop) (l1 : Int32) (μ : km_S) : Prop := vX12_isSign 43 μ (fun r5 μ4 => ((r5 = 0 → vX12_readSum_44 re k5 Q l1 2 μ4) ∧ (¬ (r5 = 0) → vX12_readSum_44 re k5 Q l1 1 μ4)))
set_option maxRecDepth 100000 in
set_option maxHeartbeats 4000000 in
theorem jcX12_readSum_30 {re re' : Int32 → km_S → (km_S → Prop) → Prop} (hre : ∀ {P P' P'' : km_S → Prop}, (∀ y0, P y0 → P' y0 → P'' y0) → ∀ (x0 : Int32) (x1 : km_S), re x0 x1 P → re' x0 x1 P' → re x0 x1 P'') {k5 k5' k5'' : Int32 → km_S → Prop} (hk5 : ∀ y0 y1, k5 y0 y1 → k5' y0 y1 → k5'' y0 y1) {Q Q' Q'' : km_S → Prop} (hQ : ∀ y0, Q y0 → Q' y0 → Q'' y0) : ∀ (l1 : Int32) (μ : km_S), wX12_readSum_30 re k5 Q l1 μ → vX12_readSum_30 re' k5' Q' l1 μ → wX12_readSum_30 re k5'' Q'' l1 μ := by
  intro l1 μ h v
  unfold wX12_readSum_30 at h
  unfold vX12_readSum_30 at v
  unfold wX12_readSum_30
  refine jcX12_isSign ?_ _ _ h v
  intro r5 μ4 h v
  refine ⟨?_, ?_⟩
  · have h := h.1
    have v := v.1
    intro e1
    have h := h e1
    have v := v e1
    exact jcX12_readSum_44 hre hk5 hQ _ _ _ h v
  · have h := h.2
    have v := v.2
    intro e2
    have h := h e2
    have v := v e2
    exact jcX12_readSum_44 hre hk5 hQ _ _ _ h v
set_option maxRecDepth 100000 in
set_option maxHeartbeats 4000000 in
theorem jaX12_readSum_30 {re re' : Int32 → km_S → (km_S → Prop) → Prop} (hre : ∀ {P P' : km_S → Prop}, (∀ y0, P y0 → P' y0) → ∀ (x0 : Int32) (x1 : km_S), re x0 x1 P → re' x0 x1 P') {k5 k5' : Int32 → km_S → Prop} (hk5 : ∀ y0 y1, k5 y0 y1 → k5' y0 y1) {Q Q' : km_S → Prop} (hQ : ∀ y0, Q y0 → Q' y0) : ∀ (l1 : Int32) (μ : km_S), wX12_readSum_30 re k5 Q l1 μ → vX12_readSum_30 re' k5' Q' l1 μ := by
  intro l1 μ h
  unfold wX12_readSum_30 at h
  unfold vX12_readSum_30
  refine jaX12_isSign ?_ _ _ h
  intro r5 μ4 h
  refine ⟨?_, ?_⟩
  · have h := h.1
    intro e1
    have h := h e1
    exact jaX12_readSum_44 hre hk5 hQ _ _ _ h
  · have h := h.2
    intro e2
    have h := h e2
    exact jaX12_readSum_44 hre hk5 hQ _ _ _ h
set_option maxRecDepth 100000 in
set_option maxHeartbeats 4000000 in
theorem jfX12_readSum_30 {I : km_S → Prop} (W : gw_ I [56, 59, 60, 62, 63, 64, 65, 66, 67]) {re : Int32 → km_S → (km_S → Prop) → Prop} (hre : ∀ {P : km_S → Prop}, (∀ y0, I y0 → P y0) → ∀ (x0 : Int32) (x1 : km_S), I x1 → re x0 x1 P) {k5 : Int32 → km_S → Prop} (hk5 : ∀ y0 y1, I y1 → k5 y0 y1) {Q : km_S → Prop} (hQ : ∀ y0, I y0 → Q y0) : ∀ (l1 : Int32) (μ : km_S), I μ → vX12_readSum_30 re k5 Q l1 μ := by
  intro l1 μ i
  unfold vX12_readSum_30
  refine jfX12_isSign (I := I) (gw_sub W (by decide)) ?_ _ _ i
  intro r5 μ4 iμ4
  refine ⟨?_, ?_⟩
  · intro e1
    exact jfX12_readSum_44 (I := I) (gw_sub W (by decide)) hre hk5 hQ _ _ _ iμ4
  · intro e2
    exact jfX12_readSum_44 (I := I) (gw_sub W (by decide)) hre hk5 hQ _ _ _ iμ4
def vX12_readSum_5 (re : Int32 → km_S → (km_S → Prop) → Prop) (Q : km_S → Prop) : Nat → Int32 → km_S → Prop
  | 0, _, _ => True
  | n + 1, l1, μ => ((¬ (km_i μ 66) = 0 → Q μ) ∧ ((km_i μ 66) = 0 → vX12_isSign 43 μ (fun r9 μ8 => ((¬ r9 = 0 → vX12_readSum_30 re (vX12_readSum_5 re Q n) Q l1 μ8) ∧ (r9 = 0 → vX12_isSign 45 μ8 (fun r12 μ11 => ((r12 = 0 → Q μ11) ∧ (¬ (r12 = 0) → vX12_readSum_30 re (vX12_readSum_5 re Q n) Q l1 μ11))))))))
set_option maxRecDepth 100000 in
set_option maxHeartbeats 4000000 in
theorem jcX12_readSum_5 {re re' : Int32 → km_S → (km_S → Prop) → Prop} (hre : ∀ {P P' P'' : km_S → Prop}, (∀ y0, P y0 → P' y0 → P'' y0) → ∀ (x0 : Int32) (x1 : km_S), re x0 x1 P → re' x0 x1 P' → re x0 x1 P'') {Q Q' Q'' : km_S → Prop} (hQ : ∀ y0, Q y0 → Q' y0 → Q'' y0) : ∀ (n : Nat) (l1 : Int32) (μ : km_S), wX12_readSum_5 re Q n l1 μ → vX12_readSum_5 re' Q' n l1 μ → wX12_readSum_5 re Q'' n l1 μ := by
  intro n
  induction n with
  | zero => intro l1 μ h; exact h.elim
  | succ n ih =>
    intro l1 μ h v
    unfold wX12_readSum_5 at h
    unfold vX12_readSum_5 at v
    unfold wX12_readSum_5
    refine ⟨?_, ?_⟩
    · have h := h.1
      have v := v.1
      intro e1
      have h := h e1
      have v := v e1
      exact hQ _ h v
    · have h := h.2
      have v := v.2
      intro e2
      have h := h e2
      have v := v e2
      refine jcX12_isSign ?_ _ _ h v
      intro r9 μ8 h v
      refine ⟨?_, ?_⟩
      · have h := h.1
        have v := v.1
        intro e3
        have h := h e3
        have v := v e3
        exact jcX12_readSum_30 hre (k5 := wX12_readSum_5 re Q n) (k5' := vX12_readSum_5 re' Q' n) (k5'' := wX12_readSum_5 re Q'' n) (fun _ _ h v => ih _ _ h v) hQ _ _ h v
      · have h := h.2
        have v := v.2
        intro e4
        have h := h e4
        have v := v e4
        refine jcX12_isSign ?_ _ _ h v
        intro r12 μ11 h v
        refine ⟨?_, ?_⟩
        · have h := h.1
          have v := v.1
          intro e5
          have h := h e5
          have v := v e5
          exact hQ _ h v
        · have h := h.2
          have v := v.2
          intro e6
          have h := h e6
          have v := v e6
          exact jcX12_readSum_30 hre (k5 := wX12_readSum_5 re Q n) (k5' := vX12_readSum_5 re' Q' n) (k5'' := wX12_readSum_5 re Q'' n) (fun _ _ h v => ih _ _ h v) hQ _ _ h v
set_option maxRecDepth 100000 in
set_option maxHeartbeats 4000000 in
theorem jaX12_readSum_5 {re re' : Int32 → km_S → (km_S → Prop) → Prop} (hre : ∀ {P P' : km_S → Prop}, (∀ y0, P y0 → P' y0) → ∀ (x0 : Int32) (x1 : km_S), re x0 x1 P → re' x0 x1 P') {Q Q' : km_S → Prop} (hQ : ∀ y0, Q y0 → Q' y0) : ∀ (n m : Nat) (l1 : Int32) (μ : km_S), wX12_readSum_5 re Q n l1 μ → vX12_readSum_5 re' Q' m l1 μ := by
  intro n
  induction n with
  | zero => intro m l1 μ h; exact h.elim
  | succ n ih =>
    intro m l1 μ h
    cases m with
    | zero => exact trivial
    | succ m =>
      unfold wX12_readSum_5 at h
      unfold vX12_readSum_5
      refine ⟨?_, ?_⟩
      · have h := h.1
        intro e1
        have h := h e1
        exact hQ _ h
      · have h := h.2
        intro e2
        have h := h e2
        refine jaX12_isSign ?_ _ _ h
        intro r9 μ8 h
        refine ⟨?_, ?_⟩
        · have h := h.1
          intro e3
          have h := h e3
          exact jaX12_readSum_30 hre (k5 := wX12_readSum_5 re Q n) (k5' := vX12_readSum_5 re' Q' m) (fun _ _ h => ih m _ _ h) hQ _ _ h
        · have h := h.2
          intro e4
          have h := h e4
          refine jaX12_isSign ?_ _ _ h
          intro r12 μ11 h
          refine ⟨?_, ?_⟩
          · have h := h.1
            intro e5
            have h := h e5
            exact hQ _ h
          · have h := h.2
            intro e6
            have h := h e6
            exact jaX12_readSum_30 hre (k5 := wX12_readSum_5 re Q n) (k5' := vX12_readSum_5 re' Q' m) (fun _ _ h => ih m _ _ h) hQ _ _ h
set_option maxRecDepth 100000 in
set_option maxHeartbeats 4000000 in
theorem jfX12_readSum_5 {I : km_S → Prop} (W : gw_ I [56, 59, 60, 62, 63, 64, 65, 66, 67]) {re : Int32 → km_S → (km_S → Prop) → Prop} (hre : ∀ {P : km_S → Prop}, (∀ y0, I y0 → P y0) → ∀ (x0 : Int32) (x1 : km_S), I x1 → re x0 x1 P) {Q : km_S → Prop} (hQ : ∀ y0, I y0 → Q y0) : ∀ (n : Nat) (l1 : Int32) (μ : km_S), I μ → vX12_readSum_5 re Q n l1 μ := by
  intro n
  induction n with
  | zero => intro l1 μ i; exact trivial
  | succ n ih =>
    intro l1 μ i
    unfold vX12_readSum_5
    refine ⟨?_, ?_⟩
    · intro e1
      exact hQ _ i
    · intro e2
      refine jfX12_isSign (I := I) (gw_sub W (by decide)) ?_ _ _ i
      intro r9 μ8 iμ8
      refine ⟨?_, ?_⟩
      · intro e3
        exact jfX12_readSum_30 (I := I) (gw_sub W (by decide)) hre (k5 := vX12_readSum_5 re Q n) (fun _ _ i => ih _ _ i) hQ _ _ iμ8
      · intro e4
        refine jfX12_isSign (I := I) (gw_sub W (by decide)) ?_ _ _ iμ8
        intro r12 μ11 iμ11
        refine ⟨?_, ?_⟩
        · intro e5
          exact hQ _ iμ11
        · intro e6
          exact jfX12_readSum_30 (I := I) (gw_sub W (by decide)) hre (k5 := vX12_readSum_5 re Q n) (fun _ _ i => ih _ _ i) hQ _ _ iμ11
def vX12_readSum (re : Int32 → km_S → (km_S → Prop) → Prop) (l1 : Int32) (μ : km_S) (Q : km_S → Prop) : Prop := vX12_readTerm re l1 μ (fun μ14 => ∀ j, vX12_readSum_5 re Q j l1 μ14)
set_option maxRecDepth 100000 in
set_option maxHeartbeats 4000000 in
theorem jcX12_readSum {re re' : Int32 → km_S → (km_S → Prop) → Prop} (hre : ∀ {P P' P'' : km_S → Prop}, (∀ y0, P y0 → P' y0 → P'' y0) → ∀ (x0 : Int32) (x1 : km_S), re x0 x1 P → re' x0 x1 P' → re x0 x1 P'') {Q Q' Q'' : km_S → Prop} (hQ : ∀ y0, Q y0 → Q' y0 → Q'' y0) : ∀ (l1 : Int32) (μ : km_S), wX12_readSum re l1 μ Q → vX12_readSum re' l1 μ Q' → wX12_readSum re l1 μ Q'' := by
  intro l1 μ h v
  unfold wX12_readSum at h
  unfold vX12_readSum at v
  unfold wX12_readSum
  refine jcX12_readTerm hre ?_ _ _ h v
  intro μ14 h v
  obtain ⟨j, h⟩ := h
  refine ⟨j, ?_⟩
  have v := v j
  exact jcX12_readSum_5 hre hQ _ _ _ h v
set_option maxRecDepth 100000 in
set_option maxHeartbeats 4000000 in
theorem jaX12_readSum {re re' : Int32 → km_S → (km_S → Prop) → Prop} (hre : ∀ {P P' : km_S → Prop}, (∀ y0, P y0 → P' y0) → ∀ (x0 : Int32) (x1 : km_S), re x0 x1 P → re' x0 x1 P') {Q Q' : km_S → Prop} (hQ : ∀ y0, Q y0 → Q' y0) : ∀ (l1 : Int32) (μ : km_S), wX12_readSum re l1 μ Q → vX12_readSum re' l1 μ Q' := by
  intro l1 μ h
  unfold wX12_readSum at h
  unfold vX12_readSum
  refine jaX12_readTerm hre ?_ _ _ h
  intro μ14 h
  obtain ⟨j, h⟩ := h
  intro j9
  exact jaX12_readSum_5 hre hQ _ j9 _ _ h
set_option maxRecDepth 100000 in
set_option maxHeartbeats 4000000 in
theorem jfX12_readSum {I : km_S → Prop} (W : gw_ I [56, 59, 60, 62, 63, 64, 65, 66, 67]) {re : Int32 → km_S → (km_S → Prop) → Prop} (hre : ∀ {P : km_S → Prop}, (∀ y0, I y0 → P y0) → ∀ (x0 : Int32) (x1 : km_S), I x1 → re x0 x1 P) {Q : km_S → Prop} (hQ : ∀ y0, I y0 → Q y0) : ∀ (l1 : Int32) (μ : km_S), I μ → vX12_readSum re l1 μ Q := by
  intro l1 μ i
  unfold vX12_readSum
  refine jfX12_readTerm (I := I) (gw_sub W (by decide)) hre ?_ _ _ i
  intro μ14 iμ14
  intro j
  exact jfX12_readSum_5 (I := I) (gw_sub W (by decide)) hre hQ _ _ _ iμ14
def vX12_readTest_76 (re : Int32 → km_S → (km_S → Prop) → Prop) (Q : km_S → Prop) (l2 : Int32) (μ : km_S) : Prop := ((l2 = 0 → Q μ) ∧ (¬ (l2 = 0) → vX12_emit 9 μ (fun μ2 => Q μ2)))
set_option maxRecDepth 100000 in
set_option maxHeartbeats 4000000 in
theorem jcX12_readTest_76 {re re' : Int32 → km_S → (km_S → Prop) → Prop} (hre : ∀ {P P' P'' : km_S → Prop}, (∀ y0, P y0 → P' y0 → P'' y0) → ∀ (x0 : Int32) (x1 : km_S), re x0 x1 P → re' x0 x1 P' → re x0 x1 P'') {Q Q' Q'' : km_S → Prop} (hQ : ∀ y0, Q y0 → Q' y0 → Q'' y0) : ∀ (l2 : Int32) (μ : km_S), wX12_readTest_76 re Q l2 μ → vX12_readTest_76 re' Q' l2 μ → wX12_readTest_76 re Q'' l2 μ := by
  intro l2 μ h v
  unfold wX12_readTest_76 at h
  unfold vX12_readTest_76 at v
  unfold wX12_readTest_76
  refine ⟨?_, ?_⟩
  · have h := h.1
    have v := v.1
    intro e1
    have h := h e1
    have v := v e1
    exact hQ _ h v
  · have h := h.2
    have v := v.2
    intro e2
    have h := h e2
    have v := v e2
    refine jcX12_emit ?_ _ _ h v
    intro μ2 h v
    exact hQ _ h v
set_option maxRecDepth 100000 in
set_option maxHeartbeats 4000000 in
theorem jaX12_readTest_76 {re re' : Int32 → km_S → (km_S → Prop) → Prop} (hre : ∀ {P P' : km_S → Prop}, (∀ y0, P y0 → P' y0) → ∀ (x0 : Int32) (x1 : km_S), re x0 x1 P → re' x0 x1 P') {Q Q' : km_S → Prop} (hQ : ∀ y0, Q y0 → Q' y0) : ∀ (l2 : Int32) (μ : km_S), wX12_readTest_76 re Q l2 μ → vX12_readTest_76 re' Q' l2 μ := by
  intro l2 μ h
  unfold wX12_readTest_76 at h
  unfold vX12_readTest_76
  refine ⟨?_, ?_⟩
  · have h := h.1
    intro e1
    have h := h e1
    exact hQ _ h
  · have h := h.2
    intro e2
    have h := h e2
    refine jaX12_emit ?_ _ _ h
    intro μ2 h
    exact hQ _ h
set_option maxRecDepth 100000 in
set_option maxHeartbeats 4000000 in
theorem jfX12_readTest_76 {I : km_S → Prop} (W : gw_ I [56, 59, 60, 62, 63, 64, 65, 66, 67]) {re : Int32 → km_S → (km_S → Prop) → Prop} (hre : ∀ {P : km_S → Prop}, (∀ y0, I y0 → P y0) → ∀ (x0 : Int32) (x1 : km_S), I x1 → re x0 x1 P) {Q : km_S → Prop} (hQ : ∀ y0, I y0 → Q y0) : ∀ (l2 : Int32) (μ : km_S), I μ → vX12_readTest_76 re Q l2 μ := by
  intro l2 μ i
  unfold vX12_readTest_76
  refine ⟨?_, ?_⟩
  · intro e1
    exact hQ _ i
  · intro e2
    refine jfX12_emit (I := I) (gw_sub W (by decide)) ?_ _ _ i
    intro μ2 iμ2
    exact hQ _ iμ2
def vX12_readTest_61 (re : Int32 → km_S → (km_S → Prop) → Prop) (k76 : Int32 → km_S → Prop) (Q : km_S → Prop) (l1 : Int32) (l2 : Int32) (s0 : Int32) (μ : km_S) : Prop := vX12_step μ (fun μ3 => vX12_readSum re l1 μ3 (fun μ4 => vX12_emit s0 μ4 (fun μ5 => k76 l2 μ5)))
set_option maxRecDepth 100000 in
set_option maxHeartbeats 4000000 in
theorem jcX12_readTest_61 {re re' : Int32 → km_S → (km_S → Prop) → Prop} (hre : ∀ {P P' P'' : km_S → Prop}, (∀ y0, P y0 → P' y0 → P'' y0) → ∀ (x0 : Int32) (x1 : km_S), re x0 x1 P → re' x0 x1 P' → re x0 x1 P'') {k76 k76' k76'' : Int32 → km_S → Prop} (hk76 : ∀ y0 y1, k76 y0 y1 → k76' y0 y1 → k76'' y0 y1) {Q Q' Q'' : km_S → Prop} (hQ : ∀ y0, Q y0 → Q' y0 → Q'' y0) : ∀ (l1 : Int32) (l2 : Int32) (s0 : Int32) (μ : km_S), wX12_readTest_61 re k76 Q l1 l2 s0 μ → vX12_readTest_61 re' k76' Q' l1 l2 s0 μ → wX12_readTest_61 re k76'' Q'' l1 l2 s0 μ := by
  intro l1 l2 s0 μ h v
  unfold wX12_readTest_61 at h
  unfold vX12_readTest_61 at v
  unfold wX12_readTest_61
  refine jcX12_step ?_ _ h v
  intro μ3 h v
  refine jcX12_readSum hre ?_ _ _ h v
  intro μ4 h v
  refine jcX12_emit ?_ _ _ h v
  intro μ5 h v
  exact hk76 _ _ h v
set_option maxRecDepth 100000 in
set_option maxHeartbeats 4000000 in
theorem jaX12_readTest_61 {re re' : Int32 → km_S → (km_S → Prop) → Prop} (hre : ∀ {P P' : km_S → Prop}, (∀ y0, P y0 → P' y0) → ∀ (x0 : Int32) (x1 : km_S), re x0 x1 P → re' x0 x1 P') {k76 k76' : Int32 → km_S → Prop} (hk76 : ∀ y0 y1, k76 y0 y1 → k76' y0 y1) {Q Q' : km_S → Prop} (hQ : ∀ y0, Q y0 → Q' y0) : ∀ (l1 : Int32) (l2 : Int32) (s0 : Int32) (μ : km_S), wX12_readTest_61 re k76 Q l1 l2 s0 μ → vX12_readTest_61 re' k76' Q' l1 l2 s0 μ := by
  intro l1 l2 s0 μ h
  unfold wX12_readTest_61 at h
  unfold vX12_readTest_61
  refine jaX12_step ?_ _ h
  intro μ3 h
  refine jaX12_readSum hre ?_ _ _ h
  intro μ4 h
  refine jaX12_emit ?_ _ _ h
  intro μ5 h
  exact hk76 _ _ h
set_option maxRecDepth 100000 in
set_option maxHeartbeats 4000000 in
theorem jfX12_readTest_61 {I : km_S → Prop} (W : gw_ I [56, 59, 60, 62, 63, 64, 65, 66, 67]) {re : Int32 → km_S → (km_S → Prop) → Prop} (hre : ∀ {P : km_S → Prop}, (∀ y0, I y0 → P y0) → ∀ (x0 : Int32) (x1 : km_S), I x1 → re x0 x1 P) {k76 : Int32 → km_S → Prop} (hk76 : ∀ y0 y1, I y1 → k76 y0 y1) {Q : km_S → Prop} (hQ : ∀ y0, I y0 → Q y0) : ∀ (l1 : Int32) (l2 : Int32) (s0 : Int32) (μ : km_S), I μ → vX12_readTest_61 re k76 Q l1 l2 s0 μ := by
  intro l1 l2 s0 μ i
  unfold vX12_readTest_61
  refine jfX12_step (I := I) (gw_sub W (by decide)) ?_ _ i
  intro μ3 iμ3
  refine jfX12_readSum (I := I) (gw_sub W (by decide)) hre ?_ _ _ iμ3
  intro μ4 iμ4
  refine jfX12_emit (I := I) (gw_sub W (by decide)) ?_ _ _ iμ4
  intro μ5 iμ5
  exact hk76 _ _ iμ5

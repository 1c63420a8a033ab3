def vX12_step_222 (k227 : Int32 → Int32 → km_S → Prop) (Q : km_S → Prop) (l1 : Int32) (μ : km_S) : Prop := k227 l1 1 μ
set_option maxRecDepth 100000 in
set_option maxHeartbeats 4000000 in
theorem jcX12_step_222 {k227 k227' k227'' : Int32 → Int32 → km_S → Prop} (hk227 : ∀ y0 y1 y2, k227 y0 y1 y2 → k227' y0 y1 y2 → k227'' y0 y1 y2) {Q Q' Q'' : km_S → Prop} (hQ : ∀ y0, Q y0 → Q' y0 → Q'' y0) : ∀ (l1 : Int32) (μ : km_S), wX12_step_222 k227 Q l1 μ → vX12_step_222 k227' Q' l1 μ → wX12_step_222 k227'' Q'' l1 μ := by
  intro l1 μ h v
  unfold wX12_step_222 at h
  unfold vX12_step_222 at v
  unfold wX12_step_222
  exact hk227 _ _ _ h v
set_option maxRecDepth 100000 in
set_option maxHeartbeats 4000000 in
theorem jaX12_step_222 {k227 k227' : Int32 → Int32 → km_S → Prop} (hk227 : ∀ y0 y1 y2, k227 y0 y1 y2 → k227' y0 y1 y2) {Q Q' : km_S → Prop} (hQ : ∀ y0, Q y0 → Q' y0) : ∀ (l1 : Int32) (μ : km_S), wX12_step_222 k227 Q l1 μ → vX12_step_222 k227' Q' l1 μ := by
  intro l1 μ h
  unfold wX12_step_222 at h
  unfold vX12_step_222
  exact hk227 _ _ _ h
set_option maxRecDepth 100000 in
set_option maxHeartbeats 4000000 in
theorem jfX12_step_222 {I : km_S → Prop} (W : gw_ I []) {k227 : Int32 → Int32 → km_S → Prop} (hk227 : ∀ y0 y1 y2, I y2 → k227 y0 y1 y2) {Q : km_S → Prop} (hQ : ∀ y0, I y0 → Q y0) : ∀ (l1 : Int32) (μ : km_S), I μ → vX12_step_222 k227 Q l1 μ := by
  intro l1 μ i
  unfold vX12_step_222
  exact hk227 _ _ _ i
def vX12_step_238 (k246 : km_S → Prop) (Q : km_S → Prop) (l1 : Int32) (s0 : Int32) (μ : km_S) : Prop := ∀ μ1, μ1 = km_si μ 62 s0 → ∀ μ2, μ2 = km_si μ1 63 l1 → k246 μ2
set_option maxRecDepth 100000 in
set_option maxHeartbeats 4000000 in
theorem jcX12_step_238 {k246 k246' k246'' : km_S → Prop} (hk246 : ∀ y0, k246 y0 → k246' y0 → k246'' y0) {Q Q' Q'' : km_S → Prop} (hQ : ∀ y0, Q y0 → Q' y0 → Q'' y0) : ∀ (l1 : Int32) (s0 : Int32) (μ : km_S), wX12_step_238 k246 Q l1 s0 μ → vX12_step_238 k246' Q' l1 s0 μ → wX12_step_238 k246'' Q'' l1 s0 μ := by
  intro l1 s0 μ h v
  unfold wX12_step_238 at h
  unfold vX12_step_238 at v
  unfold wX12_step_238
  intro μ1 e1
  have h := h μ1 e1
  have v := v μ1 e1
  intro μ2 e2
  have h := h μ2 e2
  have v := v μ2 e2
  exact hk246 _ h v
set_option maxRecDepth 100000 in
set_option maxHeartbeats 4000000 in
theorem jaX12_step_238 {k246 k246' : km_S → Prop} (hk246 : ∀ y0, k246 y0 → k246' y0) {Q Q' : km_S → Prop} (hQ : ∀ y0, Q y0 → Q' y0) : ∀ (l1 : Int32) (s0 : Int32) (μ : km_S), wX12_step_238 k246 Q l1 s0 μ → vX12_step_238 k246' Q' l1 s0 μ := by
  intro l1 s0 μ h
  unfold wX12_step_238 at h
  unfold vX12_step_238
  intro μ1 e1
  have h := h μ1 e1
  intro μ2 e2
  have h := h μ2 e2
  exact hk246 _ h
set_option maxRecDepth 100000 in
set_option maxHeartbeats 4000000 in
theorem jfX12_step_238 {I : km_S → Prop} (W : gw_ I [62, 63]) {k246 : km_S → Prop} (hk246 : ∀ y0, I y0 → k246 y0) {Q : km_S → Prop} (hQ : ∀ y0, I y0 → Q y0) : ∀ (l1 : Int32) (s0 : Int32) (μ : km_S), I μ → vX12_step_238 k246 Q l1 s0 μ := by
  intro l1 s0 μ i
  unfold vX12_step_238
  intro μ1 e1
  have iμ1 : I μ1 := by rw [e1]; exact ((W _ i) 62 (by decide)).1 _
  intro μ2 e2
  have iμ2 : I μ2 := by rw [e2]; exact ((W _ iμ1) 63 (by decide)).1 _
  exact hk246 _ iμ2
def vX12_step_150 (k246 : km_S → Prop) (Q : km_S → Prop) (μ : km_S) : Prop := ∀ μ3, μ3 = km_si μ 62 2 → k246 μ3
set_option maxRecDepth 100000 in
set_option maxHeartbeats 4000000 in
theorem jcX12_step_150 {k246 k246' k246'' : km_S → Prop} (hk246 : ∀ y0, k246 y0 → k246' y0 → k246'' y0) {Q Q' Q'' : km_S → Prop} (hQ : ∀ y0, Q y0 → Q' y0 → Q'' y0) : ∀ (μ : km_S), wX12_step_150 k246 Q μ → vX12_step_150 k246' Q' μ → wX12_step_150 k246'' Q'' μ := by
  intro μ h v
  unfold wX12_step_150 at h
  unfold vX12_step_150 at v
  unfold wX12_step_150
  intro μ3 e1
  have h := h μ3 e1
  have v := v μ3 e1
  exact hk246 _ h v
set_option maxRecDepth 100000 in
set_option maxHeartbeats 4000000 in
theorem jaX12_step_150 {k246 k246' : km_S → Prop} (hk246 : ∀ y0, k246 y0 → k246' y0) {Q Q' : km_S → Prop} (hQ : ∀ y0, Q y0 → Q' y0) : ∀ (μ : km_S), wX12_step_150 k246 Q μ → vX12_step_150 k246' Q' μ := by
  intro μ h
  unfold wX12_step_150 at h
  unfold vX12_step_150
  intro μ3 e1
  have h := h μ3 e1
  exact hk246 _ h
set_option maxRecDepth 100000 in
set_option maxHeartbeats 4000000 in
theorem jfX12_step_150 {I : km_S → Prop} (W : gw_ I [62]) {k246 : km_S → Prop} (hk246 : ∀ y0, I y0 → k246 y0) {Q : km_S → Prop} (hQ : ∀ y0, I y0 → Q y0) : ∀ (μ : km_S), I μ → vX12_step_150 k246 Q μ := by
  intro μ i
  unfold vX12_step_150
  intro μ3 e1
  have iμ3 : I μ3 := by rw [e1]; exact ((W _ i) 62 (by decide)).1 _
  exact hk246 _ iμ3
def vX12_step_108 (k246 : km_S → Prop) (Q : km_S → Prop) (μ : km_S) : Prop := ∀ μ4, μ4 = km_si μ 62 1 → k246 μ4
set_option maxRecDepth 100000 in
set_option maxHeartbeats 4000000 in
theorem jcX12_step_108 {k246 k246' k246'' : km_S → Prop} (hk246 : ∀ y0, k246 y0 → k246' y0 → k246'' y0) {Q Q' Q'' : km_S → Prop} (hQ : ∀ y0, Q y0 → Q' y0 → Q'' y0) : ∀ (μ : km_S), wX12_step_108 k246 Q μ → vX12_step_108 k246' Q' μ → wX12_step_108 k246'' Q'' μ := by
  intro μ h v
  unfold wX12_step_108 at h
  unfold vX12_step_108 at v
  unfold wX12_step_108
  intro μ4 e1
  have h := h μ4 e1
  have v := v μ4 e1
  exact hk246 _ h v
set_option maxRecDepth 100000 in
set_option maxHeartbeats 4000000 in
theorem jaX12_step_108 {k246 k246' : km_S → Prop} (hk246 : ∀ y0, k246 y0 → k246' y0) {Q Q' : km_S → Prop} (hQ : ∀ y0, Q y0 → Q' y0) : ∀ (μ : km_S), wX12_step_108 k246 Q μ → vX12_step_108 k246' Q' μ := by
  intro μ h
  unfold wX12_step_108 at h
  unfold vX12_step_108
  intro μ4 e1
  have h := h μ4 e1
  exact hk246 _ h
set_option maxRecDepth 100000 in
set_option maxHeartbeats 4000000 in
theorem jfX12_step_108 {I : km_S → Prop} (W : gw_ I [62]) {k246 : km_S → Prop} (hk246 : ∀ y0, I y0 → k246 y0) {Q : km_S → Prop} (hQ : ∀ y0, I y0 → Q y0) : ∀ (μ : km_S), I μ → vX12_step_108 k246 Q μ := by
  intro μ i
  unfold vX12_step_108
  intro μ4 e1
  have iμ4 : I μ4 := by rw [e1]; exact ((W _ i) 62 (by decide)).1 _
  exact hk246 _ iμ4
def vX12_step_246 (Q : km_S → Prop) (μ : km_S) : Prop := ∀ μ5, μ5 = km_si μ 65 (km_i μ 60) → Q μ5
set_option maxRecDepth 100000 in
set_option maxHeartbeats 4000000 in
theorem jcX12_step_246 {Q Q' Q'' : km_S → Prop} (hQ : ∀ y0, Q y0 → Q' y0 → Q'' y0) : ∀ (μ : km_S), wX12_step_246 Q μ → vX12_step_246 Q' μ → wX12_step_246 Q'' μ := by
  intro μ h v
  unfold wX12_step_246 at h
  unfold vX12_step_246 at v
  unfold wX12_step_246
  intro μ5 e1
  have h := h μ5 e1
  have v := v μ5 e1
  exact hQ _ h v
set_option maxRecDepth 100000 in
set_option maxHeartbeats 4000000 in
theorem jaX12_step_246 {Q Q' : km_S → Prop} (hQ : ∀ y0, Q y0 → Q' y0) : ∀ (μ : km_S), wX12_step_246 Q μ → vX12_step_246 Q' μ := by
  intro μ h
  unfold wX12_step_246 at h
  unfold vX12_step_246
  intro μ5 e1
  have h := h μ5 e1
  exact hQ _ h
set_option maxRecDepth 100000 in
set_option maxHeartbeats 4000000 in
theorem jfX12_step_246 {I : km_S → Prop} (W : gw_ I [65]) {Q : km_S → Prop} (hQ : ∀ y0, I y0 → Q y0) : ∀ (μ : km_S), I μ → vX12_step_246 Q μ := by
  intro μ i
  unfold vX12_step_246
  intro μ5 e1
  have iμ5 : I μ5 := by rw [e1]; exact ((W _ i) 65 (by decide)).1 _
  exact hQ _ iμ5
def vX12_step_26 (k0 : km_S → Prop) (Q : km_S → Prop) (μ : km_S) : Prop := ∀ μ6, μ6 = km_si μ 60 ((km_i μ 60) + 1) → k0 μ6
set_option maxRecDepth 100000 in
set_option maxHeartbeats 4000000 in
theorem jcX12_step_26 {k0 k0' k0'' : km_S → Prop} (hk0 : ∀ y0, k0 y0 → k0' y0 → k0'' y0) {Q Q' Q'' : km_S → Prop} (hQ : ∀ y0, Q y0 → Q' y0 → Q'' y0) : ∀ (μ : km_S), wX12_step_26 k0 Q μ → vX12_step_26 k0' Q' μ → wX12_step_26 k0'' Q'' μ := by
  intro μ h v
  unfold wX12_step_26 at h
  unfold vX12_step_26 at v
  unfold wX12_step_26
  intro μ6 e1
  have h := h μ6 e1
  have v := v μ6 e1
  exact hk0 _ h v
set_option maxRecDepth 100000 in
set_option maxHeartbeats 4000000 in
theorem jaX12_step_26 {k0 k0' : km_S → Prop} (hk0 : ∀ y0, k0 y0 → k0' y0) {Q Q' : km_S → Prop} (hQ : ∀ y0, Q y0 → Q' y0) : ∀ (μ : km_S), wX12_step_26 k0 Q μ → vX12_step_26 k0' Q' μ := by
  intro μ h
  unfold wX12_step_26 at h
  unfold vX12_step_26
  intro μ6 e1
  have h := h μ6 e1
  exact hk0 _ h
set_option maxRecDepth 100000 in
set_option maxHeartbeats 4000000 in
theorem jfX12_step_26 {I : km_S → Prop} (W : gw_ I [60]) {k0 : km_S → Prop} (hk0 : ∀ y0, I y0 → k0 y0) {Q : km_S → Prop} (hQ : ∀ y0, I y0 → Q y0) : ∀ (μ : km_S), I μ → vX12_step_26 k0 Q μ := by
  intro μ i
  unfold vX12_step_26
  intro μ6 e1
  have iμ6 : I μ6 := by rw [e1]; exact ((W _ i) 60 (by decide)).1 _
  exact hk0 _ iμ6
def vX12_step_227 (k246 : km_S → Prop) (Q : km_S → Prop) (l1 : Int32) (s0 : Int32) (μ : km_S) : Prop := ((s0 = 0 → vX12_step_238 k246 Q l1 4 μ) ∧ (¬ (s0 = 0) → vX12_step_238 k246 Q l1 3 μ))
set_option maxRecDepth 100000 in
set_option maxHeartbeats 4000000 in
theorem jcX12_step_227 {k246 k246' k246'' : km_S → Prop} (hk246 : ∀ y0, k246 y0 → k246' y0 → k246'' y0) {Q Q' Q'' : km_S → Prop} (hQ : ∀ y0, Q y0 → Q' y0 → Q'' y0) : ∀ (l1 : Int32) (s0 : Int32) (μ : km_S), wX12_step_227 k246 Q l1 s0 μ → vX12_step_227 k246' Q' l1 s0 μ → wX12_step_227 k246'' Q'' l1 s0 μ := by
  intro l1 s0 μ h v
  unfold wX12_step_227 at h
  unfold vX12_step_227 at v
  unfold wX12_step_227
  refine ⟨?_, ?_⟩
  · have h := h.1
    have v := v.1
    intro e1
    have h := h e1
    have v := v e1
    exact jcX12_step_238 hk246 hQ _ _ _ h v
  · have h := h.2
    have v := v.2
    intro e2
    have h := h e2
    have v := v e2
    exact jcX12_step_238 hk246 hQ _ _ _ h v
set_option maxRecDepth 100000 in
set_option maxHeartbeats 4000000 in
theorem jaX12_step_227 {k246 k246' : km_S → Prop} (hk246 : ∀ y0, k246 y0 → k246' y0) {Q Q' : km_S → Prop} (hQ : ∀ y0, Q y0 → Q' y0) : ∀ (l1 : Int32) (s0 : Int32) (μ : km_S), wX12_step_227 k246 Q l1 s0 μ → vX12_step_227 k246' Q' l1 s0 μ := by
  intro l1 s0 μ h
  unfold wX12_step_227 at h
  unfold vX12_step_227
  refine ⟨?_, ?_⟩
  · have h := h.1
    intro e1
    have h := h e1
    exact jaX12_step_238 hk246 hQ _ _ _ h
  · have h := h.2
    intro e2
    have h := h e2
    exact jaX12_step_238 hk246 hQ _ _ _ h
set_option maxRecDepth 100000 in
set_option maxHeartbeats 4000000 in
theorem jfX12_step_227 {I : km_S → Prop} (W : gw_ I [62, 63]) {k246 : km_S → Prop} (hk246 : ∀ y0, I y0 → k246 y0) {Q : km_S → Prop} (hQ : ∀ y0, I y0 → Q y0) : ∀ (l1 : Int32) (s0 : Int32) (μ : km_S), I μ → vX12_step_227 k246 Q l1 s0 μ := by
  intro l1 s0 μ i
  unfold vX12_step_227
  refine ⟨?_, ?_⟩
  · intro e1
    exact jfX12_step_238 (I := I) (gw_sub W (by decide)) hk246 hQ _ _ _ i
  · intro e2
    exact jfX12_step_238 (I := I) (gw_sub W (by decide)) hk246 hQ _ _ _ i
def vX12_step_123 (k150 : km_S → Prop) (Q : km_S → Prop) : Nat → km_S → Prop
  | 0, _ => True
  | n + 1, μ => vX12_byteAt (km_i μ 60) μ (fun r9 μ8 => vX12_isDigit r9 μ8 (fun r11 μ10 => ((r11 = 0 → k150 μ10) ∧ (¬ (r11 = 0) → ∀ μ13, μ13 = km_si μ10 60 ((km_i μ10 60) + 1) → vX12_step_123 k150 Q n μ13))))
set_option maxRecDepth 100000 in
set_option maxHeartbeats 4000000 in
theorem jcX12_step_123 {k150 k150' k150'' : km_S → Prop} (hk150 : ∀ y0, k150 y0 → k150' y0 → k150'' y0) {Q Q' Q'' : km_S → Prop} (hQ : ∀ y0, Q y0 → Q' y0 → Q'' y0) : ∀ (n : Nat) (μ : km_S), wX12_step_123 k150 Q n μ → vX12_step_123 k150' Q' n μ → wX12_step_123 k150'' Q'' n μ := by
  intro n
  induction n with
  | zero => intro μ h; exact h.elim
  | succ n ih =>
    intro μ h v
    unfold wX12_step_123 at h
    unfold vX12_step_123 at v
    unfold wX12_step_123
    refine jcX12_byteAt ?_ _ _ h v
    intro r9 μ8 h v
    refine jcX12_isDigit ?_ _ _ h v
    intro r11 μ10 h v
    refine ⟨?_, ?_⟩
    · have h := h.1
      have v := v.1
      intro e1
      have h := h e1
      have v := v e1
      exact hk150 _ h v
    · have h := h.2
      have v := v.2
      intro e2
      have h := h e2
      have v := v e2
      intro μ13 e3
      have h := h μ13 e3
      have v := v μ13 e3
      exact ih _ h v
set_option maxRecDepth 100000 in
set_option maxHeartbeats 4000000 in
theorem jaX12_step_123 {k150 k150' : km_S → Prop} (hk150 : ∀ y0, k150 y0 → k150' y0) {Q Q' : km_S → Prop} (hQ : ∀ y0, Q y0 → Q' y0) : ∀ (n m : Nat) (μ : km_S), wX12_step_123 k150 Q n μ → vX12_step_123 k150' Q' m μ := by
  intro n
  induction n with
  | zero => intro m μ h; exact h.elim
  | succ n ih =>
    intro m μ h
    cases m with
    | zero => exact trivial
    | succ m =>
      unfold wX12_step_123 at h
      unfold vX12_step_123
      refine jaX12_byteAt ?_ _ _ h
      intro r9 μ8 h
      refine jaX12_isDigit ?_ _ _ h
      intro r11 μ10 h
      refine ⟨?_, ?_⟩
      · have h := h.1
        intro e1
        have h := h e1
        exact hk150 _ h
      · have h := h.2
        intro e2
        have h := h e2
        intro μ13 e3
        have h := h μ13 e3
        exact ih m _ h
set_option maxRecDepth 100000 in
set_option maxHeartbeats 4000000 in
theorem jfX12_step_123 {I : km_S → Prop} (W : gw_ I [60]) {k150 : km_S → Prop} (hk150 : ∀ y0, I y0 → k150 y0) {Q : km_S → Prop} (hQ : ∀ y0, I y0 → Q y0) : ∀ (n : Nat) (μ : km_S), I μ → vX12_step_123 k150 Q n μ := by
  intro n
  induction n with
  | zero => intro μ i; exact trivial
  | succ n ih =>
    intro μ i
    unfold vX12_step_123
    refine jfX12_byteAt (I := I) (gw_sub W (by decide)) ?_ _ _ i
    intro r9 μ8 iμ8
    refine jfX12_isDigit (I := I) (gw_sub W (by decide)) ?_ _ _ iμ8
    intro r11 μ10 iμ10
    refine ⟨?_, ?_⟩
    · intro e1
      exact hk150 _ iμ10
    · intro e2
      intro μ13 e3
      have iμ13 : I μ13 := by rw [e3]; exact ((W _ iμ10) 60 (by decide)).1 _
      exact ih _ iμ13
def vX12_step_81 (k108 : km_S → Prop) (Q : km_S → Prop) : Nat → km_S → Prop
  | 0, _ => True
  | n + 1, μ => vX12_byteAt (km_i μ 60) μ (fun r15 μ14 => vX12_isLetter r15 μ14 (fun r17 μ16 => ((r17 = 0 → k108 μ16) ∧ (¬ (r17 = 0) → ∀ μ19, μ19 = km_si μ16 60 ((km_i μ16 60) + 1) → vX12_step_81 k108 Q n μ19))))
set_option maxRecDepth 100000 in
set_option maxHeartbeats 4000000 in
theorem jcX12_step_81 {k108 k108' k108'' : km_S → Prop} (hk108 : ∀ y0, k108 y0 → k108' y0 → k108'' y0) {Q Q' Q'' : km_S → Prop} (hQ : ∀ y0, Q y0 → Q' y0 → Q'' y0) : ∀ (n : Nat) (μ : km_S), wX12_step_81 k108 Q n μ → vX12_step_81 k108' Q' n μ → wX12_step_81 k108'' Q'' n μ := by
  intro n
  induction n with
  | zero => intro μ h; exact h.elim
  | succ n ih =>
    intro μ h v
    unfold wX12_step_81 at h
    unfold vX12_step_81 at v
    unfold wX12_step_81
    refine jcX12_byteAt ?_ _ _ h v
    intro r15 μ14 h v
    refine jcX12_isLetter ?_ _ _ h v
    intro r17 μ16 h v
    refine ⟨?_, ?_⟩
    · have h := h.1
      have v := v.1
      intro e1
      have h := h e1
      have v := v e1
      exact hk108 _ h v
    · have h := h.2
      have v := v.2
      intro e2
      have h := h e2
      have v := v e2
      intro μ19 e3
      have h := h μ19 e3
      have v := v μ19 e3
      exact ih _ h v
set_option maxRecDepth 100000 in
set_option maxHeartbeats 4000000 in
theorem jaX12_step_81 {k108 k108' : km_S → Prop} (hk108 : ∀ y0, k108 y0 → k108' y0) {Q Q' : km_S → Prop} (hQ : ∀ y0, Q y0 → Q' y0) : ∀ (n m : Nat) (μ : km_S), wX12_step_81 k108 Q n μ → vX12_step_81 k108' Q' m μ := by
  intro n
  induction n with
  | zero => intro m μ h; exact h.elim
  | succ n ih =>
    intro m μ h
    cases m with
    | zero => exact trivial
    | succ m =>
      unfold wX12_step_81 at h
      unfold vX12_step_81
      refine jaX12_byteAt ?_ _ _ h
      intro r15 μ14 h
      refine jaX12_isLetter ?_ _ _ h
      intro r17 μ16 h
      refine ⟨?_, ?_⟩
      · have h := h.1
        intro e1
        have h := h e1
        exact hk108 _ h
      · have h := h.2
        intro e2
        have h := h e2
        intro μ19 e3
        have h := h μ19 e3
        exact ih m _ h
set_option maxRecDepth 100000 in
set_option maxHeartbeats 4000000 in
theorem jfX12_step_81 {I : km_S → Prop} (W : gw_ I [60]) {k108 : km_S → Prop} (hk108 : ∀ y0, I y0 → k108 y0) {Q : km_S → Prop} (hQ : ∀ y0, I y0 → Q y0) : ∀ (n : Nat) (μ : km_S), I μ → vX12_step_81 k108 Q n μ := by
  intro n
  induction n with
  | zero => intro μ i; exact trivial
  | succ n ih =>
    intro μ i
    unfold vX12_step_81
    refine jfX12_byteAt (I := I) (gw_sub W (by decide)) ?_ _ _ i
    intro r15 μ14 iμ14
    refine jfX12_isLetter (I := I) (gw_sub W (by decide)) ?_ _ _ iμ14
    intro r17 μ16 iμ16
    refine ⟨?_, ?_⟩
    · intro e1
      exact hk108 _ iμ16
    · intro e2
      intro μ19 e3
      have iμ19 : I μ19 := by rw [e3]; exact ((W _ iμ16) 60 (by decide)).1 _
      exact ih _ iμ19
def vX12_step_0 (k39 : km_S → Prop) (Q : km_S → Prop) : Nat → km_S → Prop
  | 0, _ => True
  | n + 1, μ => vX12_byteAt (km_i μ 60) μ (fun r21 μ20 => ((r21 = 32 → vX12_step_26 (vX12_step_0 k39 Q n) Q μ20) ∧ (¬ (r21 = 32) → vX12_byteAt (km_i μ20 60) μ20 (fun r24 μ23 => ((¬ r24 = 10 → k39 μ23) ∧ (r24 = 10 → vX12_step_26 (vX12_step_0 k39 Q n) Q μ23))))))
set_option maxRecDepth 100000 in
set_option maxHeartbeats 4000000 in
theorem jcX12_step_0 {k39 k39' k39'' : km_S → Prop} (hk39 : ∀ y0, k39 y0 → k39' y0 → k39'' y0) {Q Q' Q'' : km_S → Prop} (hQ : ∀ y0, Q y0 → Q' y0 → Q'' y0) : ∀ (n : Nat) (μ : km_S), wX12_step_0 k39 Q n μ → vX12_step_0 k39' Q' n μ → wX12_step_0 k39'' Q'' n μ := by
  intro n
  induction n with
  | zero => intro μ h; exact h.elim
  | succ n ih =>
    intro μ h v
    unfold wX12_step_0 at h
    unfold vX12_step_0 at v
    unfold wX12_step_0
    refine jcX12_byteAt ?_ _ _ h v
    intro r21 μ20 h v
    refine ⟨?_, ?_⟩
    · have h := h.1
      have v := v.1
      intro e1
      have h := h e1
      have v := v e1
      exact jcX12_step_26 (k0 := wX12_step_0 k39 Q n) (k0' := vX12_step_0 k39' Q' n) (k0'' := wX12_step_0 k39'' Q'' n) (fun _ h v => ih _ h v) hQ _ h v
    · have h := h.2
      have v := v.2
      intro e2
      have h := h e2
      have v := v e2
      refine jcX12_byteAt ?_ _ _ h v
      intro r24 μ23 h v
      refine ⟨?_, ?_⟩
      · have h := h.1
        have v := v.1
        intro e3
        have h := h e3
        have v := v e3
        exact hk39 _ h v
      · have h := h.2
        have v := v.2
        intro e4
        have h := h e4
        have v := v e4
        exact jcX12_step_26 (k0 := wX12_step_0 k39 Q n) (k0' := vX12_step_0 k39' Q' n) (k0'' := wX12_step_0 k39'' Q'' n) (fun _ h v => ih _ h v) hQ _ h v
set_option maxRecDepth 100000 in
set_option maxHeartbeats 4000000 in
theorem jaX12_step_0 {k39 k39' : km_S → Prop} (hk39 : ∀ y0, k39 y0 → k39' y0) {Q Q' : km_S → Prop} (hQ : ∀ y0, Q y0 → Q' y0) : ∀ (n m : Nat) (μ : km_S), wX12_step_0 k39 Q n μ → vX12_step_0 k39' Q' m μ := by
  intro n
  induction n with
  | zero => intro m μ h; exact h.elim
  | succ n ih =>
    intro m μ h
    cases m with
    | zero => exact trivial
    | succ m =>
      unfold wX12_step_0 at h
      unfold vX12_step_0
      refine jaX12_byteAt ?_ _ _ h
      intro r21 μ20 h
      refine ⟨?_, ?_⟩
      · have h := h.1
        intro e1
        have h := h e1
        exact jaX12_step_26 (k0 := wX12_step_0 k39 Q n) (k0' := vX12_step_0 k39' Q' m) (fun _ h => ih m _ h) hQ _ h
      · have h := h.2
        intro e2
        have h := h e2
        refine jaX12_byteAt ?_ _ _ h
        intro r24 μ23 h
        refine ⟨?_, ?_⟩
        · have h := h.1
          intro e3
          have h := h e3
          exact hk39 _ h
        · have h := h.2
          intro e4
          have h := h e4
          exact jaX12_step_26 (k0 := wX12_step_0 k39 Q n) (k0' := vX12_step_0 k39' Q' m) (fun _ h => ih m _ h) hQ _ h
set_option maxRecDepth 100000 in
set_option maxHeartbeats 4000000 in
theorem jfX12_step_0 {I : km_S → Prop} (W : gw_ I [60]) {k39 : km_S → Prop} (hk39 : ∀ y0, I y0 → k39 y0) {Q : km_S → Prop} (hQ : ∀ y0, I y0 → Q y0) : ∀ (n : Nat) (μ : km_S), I μ → vX12_step_0 k39 Q n μ := by
  intro n
  induction n with
  | zero => intro μ i; exact trivial
  | succ n ih =>
    intro μ i
    unfold vX12_step_0
    refine jfX12_byteAt (I := I) (gw_sub W (by decide)) ?_ _ _ i
    intro r21 μ20 iμ20
    refine ⟨?_, ?_⟩
    · intro e1
      exact jfX12_step_26 (I := I) (gw_sub W (by decide)) (k0 := vX12_step_0 k39 Q n) (fun _ i => ih _ i) hQ _ iμ20
    · intro e2
      refine jfX12_byteAt (I := I) (gw_sub W (by decide)) ?_ _ _ iμ20
      intro r24 μ23 iμ23
      refine ⟨?_, ?_⟩
      · intro e3
        exact hk39 _ iμ23
      · intro e4
        exact jfX12_step_26 (I := I) (gw_sub W (by decide)) (k0 := vX12_step_0 k39 Q n) (fun _ i => ih _ i) hQ _ iμ23
def vX12_step_39 (Q : km_S → Prop) (μ : km_S) : Prop := ∀ μ26, μ26 = km_si μ 64 (km_i μ 60) → ∀ μ27, μ27 = km_si μ26 63 0 → vX12_byteAt (km_i μ27 60) μ27 (fun r29 μ28 => ((¬ r29 = (-1) → vX12_isLetter r29 μ28 (fun r32 μ31 => ((r32 = 0 → vX12_isDigit r29 μ31 (fun r35 μ34 => ((r35 = 0 → ∀ μ37, μ37 = km_si μ34 60 ((km_i μ34 60) + 1) → ((r29 = 40 → vX12_step_222 (vX12_step_227 (vX12_step_246 Q) Q) Q r29 μ37) ∧ (¬ (r29 = 40) → ((r29 = 41 → vX12_step_222 (vX12_step_227 (vX12_step_246 Q) Q) Q r29 μ37) ∧ (¬ (r29 = 41) → ((r29 = 59 → vX12_step_222 (vX12_step_227 (vX12_step_246 Q) Q) Q r29 μ37) ∧ (¬ (r29 = 59) → ((r29 = 43 → vX12_step_222 (vX12_step_227 (vX12_step_246 Q) Q) Q r29 μ37) ∧ (¬ (r29 = 43) → ((r29 = 45 → vX12_step_222 (vX12_step_227 (vX12_step_246 Q) Q) Q r29 μ37) ∧ (¬ (r29 = 45) → ((r29 = 42 → vX12_step_222 (vX12_step_227 (vX12_step_246 Q) Q) Q r29 μ37) ∧ (¬ (r29 = 42) → ((r29 = 47 → vX12_step_222 (vX12_step_227 (vX12_step_246 Q) Q) Q r29 μ37) ∧ (¬ (r29 = 47) → ((r29 = 60 → vX12_step_222 (vX12_step_227 (vX12_step_246 Q) Q) Q r29 μ37) ∧ (¬ (r29 = 60) → ((¬ r29 = 61 → vX12_step_227 (vX12_step_246 Q) Q r29 0 μ37) ∧ (r29 = 61 → vX12_step_222 (vX12_step_227 (vX12_step_246 Q) Q) Q r29 μ37))))))))))))))))))) ∧ (¬ (r35 = 0) → ∀ j, vX12_step_123 (vX12_step_150 (vX12_step_246 Q) Q) Q j μ34)))) ∧ (¬ (r32 = 0) → ∀ j, vX12_step_81 (vX12_step_108 (vX12_step_246 Q) Q) Q j μ31)))) ∧ (r29 = (-1) → ∀ μ49, μ49 = km_si μ28 62 0 → vX12_step_246 Q μ49)))
set_option maxRecDepth 100000 in
set_option maxHeartbeats 4000000 in
theorem jcX12_step_39 {Q Q' Q'' : km_S → Prop} (hQ : ∀ y0, Q y0 → Q' y0 → Q'' y0) : ∀ (μ : km_S), wX12_step_39 Q μ → vX12_step_39 Q' μ → wX12_step_39 Q'' μ := by
  intro μ h v
  unfold wX12_step_39 at h
  unfold vX12_step_39 at v
  unfold wX12_step_39
  intro μ26 e1
  have h := h μ26 e1
  have v := v μ26 e1
  intro μ27 e2
  have h := h μ27 e2
  have v := v μ27 e2
  refine jcX12_byteAt ?_ _ _ h v
  intro r29 μ28 h v
  refine ⟨?_, ?_⟩
  · have h := h.1
    have v := v.1
    intro e3
    have h := h e3
    have v := v e3
    refine jcX12_isLetter ?_ _ _ h v
    intro r32 μ31 h v
    refine ⟨?_, ?_⟩
    · have h := h.1
      have v := v.1
      intro e4
      have h := h e4
      have v := v e4
      refine jcX12_isDigit ?_ _ _ h v
      intro r35 μ34 h v
      refine ⟨?_, ?_⟩
      · have h := h.1
        have v := v.1
        intro e5
        have h := h e5
        have v := v e5
        intro μ37 e6
        have h := h μ37 e6
        have v := v μ37 e6
        refine ⟨?_, ?_⟩
        · have h := h.1
          have v := v.1
          intro e7
          have h := h e7
          have v := v e7
          exact jcX12_step_222 (k227 := wX12_step_227 (wX12_step_246 Q) Q) (k227' := vX12_step_227 (vX12_step_246 Q') Q') (k227'' := wX12_step_227 (wX12_step_246 Q'') Q'') (fun _ _ _ h v => jcX12_step_227 (k246 := wX12_step_246 Q) (k246' := vX12_step_246 Q') (k246'' := wX12_step_246 Q'') (fun _ h v => jcX12_step_246 hQ _ h v) hQ _ _ _ h v) hQ _ _ h v
        · have h := h.2
          have v := v.2
          intro e8
          have h := h e8
          have v := v e8
          refine ⟨?_, ?_⟩
          · have h := h.1
            have v := v.1
            intro e9
            have h := h e9
            have v := v e9
            exact jcX12_step_222 (k227 := wX12_step_227 (wX12_step_246 Q) Q) (k227' := vX12_step_227 (vX12_step_246 Q') Q') (k227'' := wX12_step_227 (wX12_step_246 Q'') Q'') (fun _ _ _ h v => jcX12_step_227 (k246 := wX12_step_246 Q) (k246' := vX12_step_246 Q') (k246'' := wX12_step_246 Q'') (fun _ h v => jcX12_step_246 hQ _ h v) hQ _ _ _ h v) hQ _ _ h v
          · have h := h.2
            have v := v.2
            intro e10
            have h := h e10
            have v := v e10
            refine ⟨?_, ?_⟩
            · have h := h.1
              have v := v.1
              intro e11
              have h := h e11
              have v := v e11
              exact jcX12_step_222 (k227 := wX12_step_227 (wX12_step_246 Q) Q) (k227' := vX12_step_227 (vX12_step_246 Q') Q') (k227'' := wX12_step_227 (wX12_step_246 Q'') Q'') (fun _ _ _ h v => jcX12_step_227 (k246 := wX12_step_246 Q) (k246' := vX12_step_246 Q') (k246'' := wX12_step_246 Q'') (fun _ h v => jcX12_step_246 hQ _ h v) hQ _ _ _ h v) hQ _ _ h v
            · have h := h.2
              have v := v.2
              intro e12
              have h := h e12
              have v := v e12
              refine ⟨?_, ?_⟩
              · have h := h.1
                have v := v.1
                intro e13
                have h := h e13
                have v := v e13
                exact jcX12_step_222 (k227 := wX12_step_227 (wX12_step_246 Q) Q) (k227' := vX12_step_227 (vX12_step_246 Q') Q') (k227'' := wX12_step_227 (wX12_step_246 Q'') Q'') (fun _ _ _ h v => jcX12_step_227 (k246 := wX12_step_246 Q) (k246' := vX12_step_246 Q') (k246'' := wX12_step_246 Q'') (fun _ h v => jcX12_step_246 hQ _ h v) hQ _ _ _ h v) hQ _ _ h v
              · have h := h.2
                have v := v.2
                intro e14
                have h := h e14
                have v := v e14
                refine ⟨?_, ?_⟩
                · have h := h.1
                  have v := v.1
                  intro e15
                  have h := h e15
                  have v := v e15
                  exact jcX12_step_222 (k227 := wX12_step_227 (wX12_step_246 Q) Q) (k227' := vX12_step_227 (vX12_step_246 Q') Q') (k227'' := wX12_step_227 (wX12_step_246 Q'') Q'') (fun _ _ _ h v => jcX12_step_227 (k246 := wX12_step_246 Q) (k246' := vX12_step_246 Q') (k246'' := wX12_step_246 Q'') (fun _ h v => jcX12_step_246 hQ _ h v) hQ _ _ _ h v) hQ _ _ h v
                · have h := h.2
                  have v := v.2
                  intro e16
                  have h := h e16
                  have v := v e16
                  refine ⟨?_, ?_⟩
                  · have h := h.1
                    have v := v.1
                    intro e17
                    have h := h e17
                    have v := v e17
                    exact jcX12_step_222 (k227 := wX12_step_227 (wX12_step_246 Q) Q) (k227' := vX12_step_227 (vX12_step_246 Q') Q') (k227'' := wX12_step_227 (wX12_step_246 Q'') Q'') (fun _ _ _ h v => jcX12_step_227 (k246 := wX12_step_246 Q) (k246' := vX12_step_246 Q') (k246'' := wX12_step_246 Q'') (fun _ h v => jcX12_step_246 hQ _ h v) hQ _ _ _ h v) hQ _ _ h v
                  · have h := h.2
                    have v := v.2
                    intro e18
                    have h := h e18
                    have v := v e18
                    refine ⟨?_, ?_⟩
                    · have h := h.1
                      have v := v.1
                      intro e19
                      have h := h e19
                      have v := v e19
                      exact jcX12_step_222 (k227 := wX12_step_227 (wX12_step_246 Q) Q) (k227' := vX12_step_227 (vX12_step_246 Q') Q') (k227'' := wX12_step_227 (wX12_step_246 Q'') Q'') (fun _ _ _ h v => jcX12_step_227 (k246 := wX12_step_246 Q) (k246' := vX12_step_246 Q') (k246'' := wX12_step_246 Q'') (fun _ h v => jcX12_step_246 hQ _ h v) hQ _ _ _ h v) hQ _ _ h v
                    · have h := h.2
                      have v := v.2
                      intro e20
                      have h := h e20
                      have v := v e20
                      refine ⟨?_, ?_⟩
                      · have h := h.1
                        have v := v.1
                        intro e21
                        have h := h e21
                        have v := v e21
                        exact jcX12_step_222 (k227 := wX12_step_227 (wX12_step_246 Q) Q) (k227' := vX12_step_227 (vX12_step_246 Q') Q') (k227'' := wX12_step_227 (wX12_step_246 Q'') Q'') (fun _ _ _ h v => jcX12_step_227 (k246 := wX12_step_246 Q) (k246' := vX12_step_246 Q') (k246'' := wX12_step_246 Q'') (fun _ h v => jcX12_step_246 hQ _ h v) hQ _ _ _ h v) hQ _ _ h v
                      · have h := h.2
                        have v := v.2
                        intro e22
                        have h := h e22
                        have v := v e22
                        refine ⟨?_, ?_⟩
                        · have h := h.1
                          have v := v.1
                          intro e23
                          have h := h e23
                          have v := v e23
                          exact jcX12_step_227 (k246 := wX12_step_246 Q) (k246' := vX12_step_246 Q') (k246'' := wX12_step_246 Q'') (fun _ h v => jcX12_step_246 hQ _ h v) hQ _ _ _ h v
                        · have h := h.2
                          have v := v.2
                          intro e24
                          have h := h e24
                          have v := v e24
                          exact jcX12_step_222 (k227 := wX12_step_227 (wX12_step_246 Q) Q) (k227' := vX12_step_227 (vX12_step_246 Q') Q') (k227'' := wX12_step_227 (wX12_step_246 Q'') Q'') (fun _ _ _ h v => jcX12_step_227 (k246 := wX12_step_246 Q) (k246' := vX12_step_246 Q') (k246'' := wX12_step_246 Q'') (fun _ h v => jcX12_step_246 hQ _ h v) hQ _ _ _ h v) hQ _ _ h v
      · have h := h.2
        have v := v.2
        intro e25
        have h := h e25
        have v := v e25
        obtain ⟨j, h⟩ := h
        refine ⟨j, ?_⟩
        have v := v j
        exact jcX12_step_123 (k150 := wX12_step_150 (wX12_step_246 Q) Q) (k150' := vX12_step_150 (vX12_step_246 Q') Q') (k150'' := wX12_step_150 (wX12_step_246 Q'') Q'') (fun _ h v => jcX12_step_150 (k246 := wX12_step_246 Q) (k246' := vX12_step_246 Q') (k246'' := wX12_step_246 Q'') (fun _ h v => jcX12_step_246 hQ _ h v) hQ _ h v) hQ _ _ h v
    · have h := h.2
      have v := v.2
      intro e26
      have h := h e26
      have v := v e26
      obtain ⟨j, h⟩ := h
      refine ⟨j, ?_⟩
      have v := v j
      exact jcX12_step_81 (k108 := wX12_step_108 (wX12_step_246 Q) Q) (k108' := vX12_step_108 (vX12_step_246 Q') Q') (k108'' := wX12_step_108 (wX12_step_246 Q'') Q'') (fun _ h v => jcX12_step_108 (k246 := wX12_step_246 Q) (k246' := vX12_step_246 Q') (k246'' := wX12_step_246 Q'') (fun _ h v => jcX12_step_246 hQ _ h v) hQ _ h v) hQ _ _ h v
  · have h := h.2
    have v := v.2
    intro e27
    have h := h e27
    have v := v e27
    intro μ49 e28
    have h := h μ49 e28
    have v := v μ49 e28
    exact jcX12_step_246 hQ _ h v
set_option maxRecDepth 100000 in
set_option maxHeartbeats 4000000 in
theorem jaX12_step_39 {Q Q' : km_S → Prop} (hQ : ∀ y0, Q y0 → Q' y0) : ∀ (μ : km_S), wX12_step_39 Q μ → vX12_step_39 Q' μ := by
  intro μ h
  unfold wX12_step_39 at h
  unfold vX12_step_39
  intro μ26 e1
  have h := h μ26 e1
  intro μ27 e2
  have h := h μ27 e2
  refine jaX12_byteAt ?_ _ _ h
  intro r29 μ28 h
  refine ⟨?_, ?_⟩
  · have h := h.1
    intro e3
    have h := h e3
    refine jaX12_isLetter ?_ _ _ h
    intro r32 μ31 h
    refine ⟨?_, ?_⟩
    · have h := h.1
      intro e4
      have h := h e4
      refine jaX12_isDigit ?_ _ _ h
      intro r35 μ34 h
      refine ⟨?_, ?_⟩
      · have h := h.1
        intro e5
        have h := h e5
        intro μ37 e6
        have h := h μ37 e6
        refine ⟨?_, ?_⟩
        · have h := h.1
          intro e7
          have h := h e7
          exact jaX12_step_222 (k227 := wX12_step_227 (wX12_step_246 Q) Q) (k227' := vX12_step_227 (vX12_step_246 Q') Q') (fun _ _ _ h => jaX12_step_227 (k246 := wX12_step_246 Q) (k246' := vX12_step_246 Q') (fun _ h => jaX12_step_246 hQ _ h) hQ _ _ _ h) hQ _ _ h
        · have h := h.2
          intro e8
          have h := h e8
          refine ⟨?_, ?_⟩
          · have h := h.1
            intro e9
            have h := h e9
            exact jaX12_step_222 (k227 := wX12_step_227 (wX12_step_246 Q) Q) (k227' := vX12_step_227 (vX12_step_246 Q') Q') (fun _ _ _ h => jaX12_step_227 (k246 := wX12_step_246 Q) (k246' := vX12_step_246 Q') (fun _ h => jaX12_step_246 hQ _ h) hQ _ _ _ h) hQ _ _ h
          · have h := h.2
            intro e10
            have h := h e10
            refine ⟨?_, ?_⟩
            · have h := h.1
              intro e11
              have h := h e11
              exact jaX12_step_222 (k227 := wX12_step_227 (wX12_step_246 Q) Q) (k227' := vX12_step_227 (vX12_step_246 Q') Q') (fun _ _ _ h => jaX12_step_227 (k246 := wX12_step_246 Q) (k246' := vX12_step_246 Q') (fun _ h => jaX12_step_246 hQ _ h) hQ _ _ _ h) hQ _ _ h
            · have h := h.2
              intro e12
              have h := h e12
              refine ⟨?_, ?_⟩
              · have h := h.1
                intro e13
                have h := h e13
                exact jaX12_step_222 (k227 := wX12_step_227 (wX12_step_246 Q) Q) (k227' := vX12_step_227 (vX12_step_246 Q') Q') (fun _ _ _ h => jaX12_step_227 (k246 := wX12_step_246 Q) (k246' := vX12_step_246 Q') (fun _ h => jaX12_step_246 hQ _ h) hQ _ _ _ h) hQ _ _ h
              · have h := h.2
                intro e14
                have h := h e14
                refine ⟨?_, ?_⟩
                · have h := h.1
                  intro e15
                  have h := h e15
                  exact jaX12_step_222 (k227 := wX12_step_227 (wX12_step_246 Q) Q) (k227' := vX12_step_227 (vX12_step_246 Q') Q') (fun _ _ _ h => jaX12_step_227 (k246 := wX12_step_246 Q) (k246' := vX12_step_246 Q') (fun _ h => jaX12_step_246 hQ _ h) hQ _ _ _ h) hQ _ _ h
                · have h := h.2
                  intro e16
                  have h := h e16
                  refine ⟨?_, ?_⟩
                  · have h := h.1
                    intro e17
                    have h := h e17
                    exact jaX12_step_222 (k227 := wX12_step_227 (wX12_step_246 Q) Q) (k227' := vX12_step_227 (vX12_step_246 Q') Q') (fun _ _ _ h => jaX12_step_227 (k246 := wX12_step_246 Q) (k246' := vX12_step_246 Q') (fun _ h => jaX12_step_246 hQ _ h) hQ _ _ _ h) hQ _ _ h
                  · have h := h.2
                    intro e18
                    have h := h e18
                    refine ⟨?_, ?_⟩
                    · have h := h.1
                      intro e19
                      have h := h e19
                      exact jaX12_step_222 (k227 := wX12_step_227 (wX12_step_246 Q) Q) (k227' := vX12_step_227 (vX12_step_246 Q') Q') (fun _ _ _ h => jaX12_step_227 (k246 := wX12_step_246 Q) (k246' := vX12_step_246 Q') (fun _ h => jaX12_step_246 hQ _ h) hQ _ _ _ h) hQ _ _ h
                    · have h := h.2
                      intro e20
                      have h := h e20
                      refine ⟨?_, ?_⟩
                      · have h := h.1
                        intro e21
                        have h := h e21
                        exact jaX12_step_222 (k227 := wX12_step_227 (wX12_step_246 Q) Q) (k227' := vX12_step_227 (vX12_step_246 Q') Q') (fun _ _ _ h => jaX12_step_227 (k246 := wX12_step_246 Q) (k246' := vX12_step_246 Q') (fun _ h => jaX12_step_246 hQ _ h) hQ _ _ _ h) hQ _ _ h
                      · have h := h.2
                        intro e22
                        have h := h e22
                        refine ⟨?_, ?_⟩
                        · have h := h.1
                          intro e23
                          have h := h e23
                          exact jaX12_step_227 (k246 := wX12_step_246 Q) (k246' := vX12_step_246 Q') (fun _ h => jaX12_step_246 hQ _ h) hQ _ _ _ h
                        · have h := h.2
                          intro e24
                          have h := h e24
                          exact jaX12_step_222 (k227 := wX12_step_227 (wX12_step_246 Q) Q) (k227' := vX12_step_227 (vX12_step_246 Q') Q') (fun _ _ _ h => jaX12_step_227 (k246 := wX12_step_246 Q) (k246' := vX12_step_246 Q') (fun _ h => jaX12_step_246 hQ _ h) hQ _ _ _ h) hQ _ _ h
      · have h := h.2
        intro e25
        have h := h e25
        obtain ⟨j, h⟩ := h
        intro j9
        exact jaX12_step_123 (k150 := wX12_step_150 (wX12_step_246 Q) Q) (k150' := vX12_step_150 (vX12_step_246 Q') Q') (fun _ h => jaX12_step_150 (k246 := wX12_step_246 Q) (k246' := vX12_step_246 Q') (fun _ h => jaX12_step_246 hQ _ h) hQ _ h) hQ _ j9 _ h
    · have h := h.2
      intro e26
      have h := h e26
      obtain ⟨j, h⟩ := h
      intro j9
      exact jaX12_step_81 (k108 := wX12_step_108 (wX12_step_246 Q) Q) (k108' := vX12_step_108 (vX12_step_246 Q') Q') (fun _ h => jaX12_step_108 (k246 := wX12_step_246 Q) (k246' := vX12_step_246 Q') (fun _ h => jaX12_step_246 hQ _ h) hQ _ h) hQ _ j9 _ h
  · have h := h.2
    intro e27
    have h := h e27
    intro μ49 e28
    have h := h μ49 e28
    exact jaX12_step_246 hQ _ h
set_option maxRecDepth 100000 in
set_option maxHeartbeats 4000000 in
theorem jfX12_step_39 {I : km_S → Prop} (W : gw_ I [60, 62, 63, 64, 65]) {Q : km_S → Prop} (hQ : ∀ y0, I y0 → Q y0) : ∀ (μ : km_S), I μ → vX12_step_39 Q μ := by
  intro μ i
  unfold vX12_step_39
  intro μ26 e1
  have iμ26 : I μ26 := by rw [e1]; exact ((W _ i) 64 (by decide)).1 _
  intro μ27 e2
  have iμ27 : I μ27 := by rw [e2]; exact ((W _ iμ26) 63 (by decide)).1 _
  refine jfX12_byteAt (I := I) (gw_sub W (by decide)) ?_ _ _ iμ27
  intro r29 μ28 iμ28
  refine ⟨?_, ?_⟩
  · intro e3
    refine jfX12_isLetter (I := I) (gw_sub W (by decide)) ?_ _ _ iμ28
    intro r32 μ31 iμ31
    refine ⟨?_, ?_⟩
    · intro e4
      refine jfX12_isDigit (I := I) (gw_sub W (by decide)) ?_ _ _ iμ31
      intro r35 μ34 iμ34
      refine ⟨?_, ?_⟩
      · intro e5
        intro μ37 e6
        have iμ37 : I μ37 := by rw [e6]; exact ((W _ iμ34) 60 (by decide)).1 _
        refine ⟨?_, ?_⟩
        · intro e7
          exact jfX12_step_222 (I := I) (gw_sub W (by decide)) (k227 := vX12_step_227 (vX12_step_246 Q) Q) (fun _ _ _ i => jfX12_step_227 (I := I) (gw_sub W (by decide)) (k246 := vX12_step_246 Q) (fun _ i => jfX12_step_246 (I := I) (gw_sub W (by decide)) hQ _ i) hQ _ _ _ i) hQ _ _ iμ37
        · intro e8
          refine ⟨?_, ?_⟩
          · intro e9
            exact jfX12_step_222 (I := I) (gw_sub W (by decide)) (k227 := vX12_step_227 (vX12_step_246 Q) Q) (fun _ _ _ i => jfX12_step_227 (I := I) (gw_sub W (by decide)) (k246 := vX12_step_246 Q) (fun _ i => jfX12_step_246 (I := I) (gw_sub W (by decide)) hQ _ i) hQ _ _ _ i) hQ _ _ iμ37
          · intro e10
            refine ⟨?_, ?_⟩
            · intro e11
              exact jfX12_step_222 (I := I) (gw_sub W (by decide)) (k227 := vX12_step_227 (vX12_step_246 Q) Q) (fun _ _ _ i => jfX12_step_227 (I := I) (gw_sub W (by decide)) (k246 := vX12_step_246 Q) (fun _ i => jfX12_step_246 (I := I) (gw_sub W (by decide)) hQ _ i) hQ _ _ _ i) hQ _ _ iμ37
            · intro e12
              refine ⟨?_, ?_⟩
              · intro e13
                exact jfX12_step_222 (I := I) (gw_sub W (by decide)) (k227 := vX12_step_227 (vX12_step_246 Q) Q) (fun _ _ _ i => jfX12_step_227 (I := I) (gw_sub W (by decide)) (k246 := vX12_step_246 Q) (fun _ i => jfX12_step_246 (I := I) (gw_sub W (by decide)) hQ _ i) hQ _ _ _ i) hQ _ _ iμ37
              · intro e14
                refine ⟨?_, ?_⟩
                · intro e15
                  exact jfX12_step_222 (I := I) (gw_sub W (by decide)) (k227 := vX12_step_227 (vX12_step_246 Q) Q) (fun _ _ _ i => jfX12_step_227 (I := I) (gw_sub W (by decide)) (k246 := vX12_step_246 Q) (fun _ i => jfX12_step_246 (I := I) (gw_sub W (by decide)) hQ _ i) hQ _ _ _ i) hQ _ _ iμ37
                · intro e16
                  refine ⟨?_, ?_⟩
                  · intro e17
                    exact jfX12_step_222 (I := I) (gw_sub W (by decide)) (k227 := vX12_step_227 (vX12_step_246 Q) Q) (fun _ _ _ i => jfX12_step_227 (I := I) (gw_sub W (by decide)) (k246 := vX12_step_246 Q) (fun _ i => jfX12_step_246 (I := I) (gw_sub W (by decide)) hQ _ i) hQ _ _ _ i) hQ _ _ iμ37
                  · intro e18
                    refine ⟨?_, ?_⟩
                    · intro e19
                      exact jfX12_step_222 (I := I) (gw_sub W (by decide)) (k227 := vX12_step_227 (vX12_step_246 Q) Q) (fun _ _ _ i => jfX12_step_227 (I := I) (gw_sub W (by decide)) (k246 := vX12_step_246 Q) (fun _ i => jfX12_step_246 (I := I) (gw_sub W (by decide)) hQ _ i) hQ _ _ _ i) hQ _ _ iμ37
                    · intro e20
                      refine ⟨?_, ?_⟩
                      · intro e21
                        exact jfX12_step_222 (I := I) (gw_sub W (by decide)) (k227 := vX12_step_227 (vX12_step_246 Q) Q) (fun _ _ _ i => jfX12_step_227 (I := I) (gw_sub W (by decide)) (k246 := vX12_step_246 Q) (fun _ i => jfX12_step_246 (I := I) (gw_sub W (by decide)) hQ _ i) hQ _ _ _ i) hQ _ _ iμ37
                      · intro e22
                        refine ⟨?_, ?_⟩
                        · intro e23
                          exact jfX12_step_227 (I := I) (gw_sub W (by decide)) (k246 := vX12_step_246 Q) (fun _ i => jfX12_step_246 (I := I) (gw_sub W (by decide)) hQ _ i) hQ _ _ _ iμ37
                        · intro e24
                          exact jfX12_step_222 (I := I) (gw_sub W (by decide)) (k227 := vX12_step_227 (vX12_step_246 Q) Q) (fun _ _ _ i => jfX12_step_227 (I := I) (gw_sub W (by decide)) (k246 := vX12_step_246 Q) (fun _ i => jfX12_step_246 (I := I) (gw_sub W (by decide)) hQ _ i) hQ _ _ _ i) hQ _ _ iμ37
      · intro e25
        intro j
        exact jfX12_step_123 (I := I) (gw_sub W (by decide)) (k150 := vX12_step_150 (vX12_step_246 Q) Q) (fun _ i => jfX12_step_150 (I := I) (gw_sub W (by decide)) (k246 := vX12_step_246 Q) (fun _ i => jfX12_step_246 (I := I) (gw_sub W (by decide)) hQ _ i) hQ _ i) hQ _ _ iμ34
    · intro e26
      intro j
      exact jfX12_step_81 (I := I) (gw_sub W (by decide)) (k108 := vX12_step_108 (vX12_step_246 Q) Q) (fun _ i => jfX12_step_108 (I := I) (gw_sub W (by decide)) (k246 := vX12_step_246 Q) (fun _ i => jfX12_step_246 (I := I) (gw_sub W (by decide)) hQ _ i) hQ _ i) hQ _ _ iμ31
  · intro e27
    intro μ49 e28
    have iμ49 : I μ49 := by rw [e28]; exact ((W _ iμ28) 62 (by decide)).1 _
    exact jfX12_step_246 (I := I) (gw_sub W (by decide)) hQ _ iμ49
def vX12_step (μ : km_S) (Q : km_S → Prop) : Prop := ∀ j, vX12_step_0 (vX12_step_39 Q) Q j μ
set_option maxRecDepth 100000 in
set_option maxHeartbeats 4000000 in
theorem jcX12_step {Q Q' Q'' : km_S → Prop} (hQ : ∀ y0, Q y0 → Q' y0 → Q'' y0) : ∀ (μ : km_S), wX12_step μ Q → vX12_step μ Q' → wX12_step μ Q'' := by
  intro μ h v
  unfold wX12_step at h
  unfold vX12_step at v
  unfold wX12_step
  obtain ⟨j, h⟩ := h
  refine ⟨j, ?_⟩
  have v := v j
  exact jcX12_step_0 (k39 := wX12_step_39 Q) (k39' := vX12_step_39 Q') (k39'' := wX12_step_39 Q'') (fun _ h v => jcX12_step_39 hQ _ h v) hQ _ _ h v
set_option maxRecDepth 100000 in
set_option maxHeartbeats 4000000 in
theorem jaX12_step {Q Q' : km_S → Prop} (hQ : ∀ y0, Q y0 → Q' y0) : ∀ (μ : km_S), wX12_step μ Q → vX12_step μ Q' := by
  intro μ h
  unfold wX12_step at h
  unfold vX12_step
  obtain ⟨j, h⟩ := h
  intro j9
  exact jaX12_step_0 (k39 := wX12_step_39 Q) (k39' := vX12_step_39 Q') (fun _ h => jaX12_step_39 hQ _ h) hQ _ j9 _ h
set_option maxRecDepth 100000 in
set_option maxHeartbeats 4000000 in
theorem jfX12_step {I : km_S → Prop} (W : gw_ I [60, 62, 63, 64, 65]) {Q : km_S → Prop} (hQ : ∀ y0, I y0 → Q y0) : ∀ (μ : km_S), I μ → vX12_step μ Q := by
  intro μ i
  unfold vX12_step
  intro j
  exact jfX12_step_0 (I := I) (gw_sub W (by decide)) (k39 := vX12_step_39 Q) (fun _ i => jfX12_step_39 (I := I) (gw_sub W (by decide)) hQ _ i) hQ _ _ i

def vX12_jams_129 (k101 : Int32 → Int32 → Int32 → Int32 → km_S → Prop) (Q : km_S → Prop) (l1 : Int32) (l2 : Int32) (l3 : Int32) (l4 : Int32) (μ : km_S) : Prop := ∀ v5 : Int32, v5 = l4 + 1 → k101 l1 l2 l3 v5 μ
set_option maxRecDepth 100000 in
set_option maxHeartbeats 4000000 in
theorem jcX12_jams_129 {k101 k101' k101'' : Int32 → Int32 → Int32 → Int32 → km_S → Prop} (hk101 : ∀ y0 y1 y2 y3 y4, k101 y0 y1 y2 y3 y4 → k101' y0 y1 y2 y3 y4 → k101'' y0 y1 y2 y3 y4) {Q Q' Q'' : km_S → Prop} (hQ : ∀ y0, Q y0 → Q' y0 → Q'' y0) : ∀ (l1 : Int32) (l2 : Int32) (l3 : Int32) (l4 : Int32) (μ : km_S), wX12_jams_129 k101 Q l1 l2 l3 l4 μ → vX12_jams_129 k101' Q' l1 l2 l3 l4 μ → wX12_jams_129 k101'' Q'' l1 l2 l3 l4 μ := by
  intro l1 l2 l3 l4 μ h v
  unfold wX12_jams_129 at h
  unfold vX12_jams_129 at v
  unfold wX12_jams_129
  intro v5 e1
  have h := h v5 e1
  have v := v v5 e1
  exact hk101 _ _ _ _ _ h v
set_option maxRecDepth 100000 in
set_option maxHeartbeats 4000000 in
theorem jaX12_jams_129 {k101 k101' : Int32 → Int32 → Int32 → Int32 → km_S → Prop} (hk101 : ∀ y0 y1 y2 y3 y4, k101 y0 y1 y2 y3 y4 → k101' y0 y1 y2 y3 y4) {Q Q' : km_S → Prop} (hQ : ∀ y0, Q y0 → Q' y0) : ∀ (l1 : Int32) (l2 : Int32) (l3 : Int32) (l4 : Int32) (μ : km_S), wX12_jams_129 k101 Q l1 l2 l3 l4 μ → vX12_jams_129 k101' Q' l1 l2 l3 l4 μ := by
  intro l1 l2 l3 l4 μ h
  unfold wX12_jams_129 at h
  unfold vX12_jams_129
  intro v5 e1
  have h := h v5 e1
  exact hk101 _ _ _ _ _ h
set_option maxRecDepth 100000 in
set_option maxHeartbeats 4000000 in
theorem jfX12_jams_129 {I : km_S → Prop} (W : gw_ I []) {k101 : Int32 → Int32 → Int32 → Int32 → km_S → Prop} (hk101 : ∀ y0 y1 y2 y3 y4, I y4 → k101 y0 y1 y2 y3 y4) {Q : km_S → Prop} (hQ : ∀ y0, I y0 → Q y0) : ∀ (l1 : Int32) (l2 : Int32) (l3 : Int32) (l4 : Int32) (μ : km_S), I μ → vX12_jams_129 k101 Q l1 l2 l3 l4 μ := by
  intro l1 l2 l3 l4 μ i
  unfold vX12_jams_129
  intro v5 e1
  exact hk101 _ _ _ _ _ i
def vX12_jams_73 (k2 : Int32 → km_S → Prop) (Q : km_S → Prop) (l1 : Int32) (μ : km_S) : Prop := ∀ v6 : Int32, v6 = l1 + 1 → k2 v6 μ
set_option maxRecDepth 100000 in
set_option maxHeartbeats 4000000 in
theorem jcX12_jams_73 {k2 k2' k2'' : Int32 → km_S → Prop} (hk2 : ∀ y0 y1, k2 y0 y1 → k2' y0 y1 → k2'' y0 y1) {Q Q' Q'' : km_S → Prop} (hQ : ∀ y0, Q y0 → Q' y0 → Q'' y0) : ∀ (l1 : Int32) (μ : km_S), wX12_jams_73 k2 Q l1 μ → vX12_jams_73 k2' Q' l1 μ → wX12_jams_73 k2'' Q'' l1 μ := by
  intro l1 μ h v
  unfold wX12_jams_73 at h
  unfold vX12_jams_73 at v
  unfold wX12_jams_73
  intro v6 e1
  have h := h v6 e1
  have v := v v6 e1
  exact hk2 _ _ h v
set_option maxRecDepth 100000 in
set_option maxHeartbeats 4000000 in
theorem jaX12_jams_73 {k2 k2' : Int32 → km_S → Prop} (hk2 : ∀ y0 y1, k2 y0 y1 → k2' y0 y1) {Q Q' : km_S → Prop} (hQ : ∀ y0, Q y0 → Q' y0) : ∀ (l1 : Int32) (μ : km_S), wX12_jams_73 k2 Q l1 μ → vX12_jams_73 k2' Q' l1 μ := by
  intro l1 μ h
  unfold wX12_jams_73 at h
  unfold vX12_jams_73
  intro v6 e1
  have h := h v6 e1
  exact hk2 _ _ h
set_option maxRecDepth 100000 in
set_option maxHeartbeats 4000000 in
theorem jfX12_jams_73 {I : km_S → Prop} (W : gw_ I []) {k2 : Int32 → km_S → Prop} (hk2 : ∀ y0 y1, I y1 → k2 y0 y1) {Q : km_S → Prop} (hQ : ∀ y0, I y0 → Q y0) : ∀ (l1 : Int32) (μ : km_S), I μ → vX12_jams_73 k2 Q l1 μ := by
  intro l1 μ i
  unfold vX12_jams_73
  intro v6 e1
  exact hk2 _ _ i
def vX12_jams_67 (k12 : Int32 → Int32 → km_S → Prop) (Q : km_S → Prop) (l1 : Int32) (l2 : Int32) (μ : km_S) : Prop := ∀ v7 : Int32, v7 = l2 + 1 → k12 l1 v7 μ
set_option maxRecDepth 100000 in
set_option maxHeartbeats 4000000 in
theorem jcX12_jams_67 {k12 k12' k12'' : Int32 → Int32 → km_S → Prop} (hk12 : ∀ y0 y1 y2, k12 y0 y1 y2 → k12' y0 y1 y2 → k12'' y0 y1 y2) {Q Q' Q'' : km_S → Prop} (hQ : ∀ y0, Q y0 → Q' y0 → Q'' y0) : ∀ (l1 : Int32) (l2 : Int32) (μ : km_S), wX12_jams_67 k12 Q l1 l2 μ → vX12_jams_67 k12' Q' l1 l2 μ → wX12_jams_67 k12'' Q'' l1 l2 μ := by
  intro l1 l2 μ h v
  unfold wX12_jams_67 at h
  unfold vX12_jams_67 at v
  unfold wX12_jams_67
  intro v7 e1
  have h := h v7 e1
  have v := v v7 e1
  exact hk12 _ _ _ h v
set_option maxRecDepth 100000 in
set_option maxHeartbeats 4000000 in
theorem jaX12_jams_67 {k12 k12' : Int32 → Int32 → km_S → Prop} (hk12 : ∀ y0 y1 y2, k12 y0 y1 y2 → k12' y0 y1 y2) {Q Q' : km_S → Prop} (hQ : ∀ y0, Q y0 → Q' y0) : ∀ (l1 : Int32) (l2 : Int32) (μ : km_S), wX12_jams_67 k12 Q l1 l2 μ → vX12_jams_67 k12' Q' l1 l2 μ := by
  intro l1 l2 μ h
  unfold wX12_jams_67 at h
  unfold vX12_jams_67
  intro v7 e1
  have h := h v7 e1
  exact hk12 _ _ _ h
set_option maxRecDepth 100000 in
set_option maxHeartbeats 4000000 in
theorem jfX12_jams_67 {I : km_S → Prop} (W : gw_ I []) {k12 : Int32 → Int32 → km_S → Prop} (hk12 : ∀ y0 y1 y2, I y2 → k12 y0 y1 y2) {Q : km_S → Prop} (hQ : ∀ y0, I y0 → Q y0) : ∀ (l1 : Int32) (l2 : Int32) (μ : km_S), I μ → vX12_jams_67 k12 Q l1 l2 μ := by
  intro l1 l2 μ i
  unfold vX12_jams_67
  intro v7 e1
  exact hk12 _ _ _ i
def vX12_jams_230 (k256 : Int32 → Int32 → km_S → Prop) (Q : km_S → Prop) : Nat → Int32 → Int32 → Int32 → km_S → Prop
  | 0, _, _, _, _ => True
  | n + 1, l1, l2, l3, μ => (((km_i μ 7) ≤ l3 → k256 l1 l2 μ) ∧ (¬ ((km_i μ 7) ≤ l3) → vp_in l3 6 → ((¬ (km_a μ 44 l3.toNatClampNeg) = l1 → vX12_jams_250 (vX12_jams_230 k256 Q n) Q l1 l2 l3 μ) ∧ ((km_a μ 44 l3.toNatClampNeg) = l1 → vX12_jams_250 (vX12_jams_230 k256 Q n) Q l1 1 l3 μ))))
set_option maxRecDepth 100000 in
set_option maxHeartbeats 4000000 in
theorem jcX12_jams_230 {k256 k256' k256'' : Int32 → Int32 → km_S → Prop} (hk256 : ∀ y0 y1 y2, k256 y0 y1 y2 → k256' y0 y1 y2 → k256'' y0 y1 y2) {Q Q' Q'' : km_S → Prop} (hQ : ∀ y0, Q y0 → Q' y0 → Q'' y0) : ∀ (n : Nat) (l1 : Int32) (l2 : Int32) (l3 : Int32) (μ : km_S), wX12_jams_230 k256 Q n l1 l2 l3 μ → vX12_jams_230 k256' Q' n l1 l2 l3 μ → wX12_jams_230 k256'' Q'' n l1 l2 l3 μ := by
  intro n
  induction n with
  | zero => intro l1 l2 l3 μ h; exact h.elim
  | succ n ih =>
    intro l1 l2 l3 μ h v
    unfold wX12_jams_230 at h
    unfold vX12_jams_230 at v
    unfold wX12_jams_230
    refine ⟨?_, ?_⟩
    · have h := h.1
      have v := v.1
      intro e1
      have h := h e1
      have v := v e1
      exact hk256 _ _ _ h v
    · have h := h.2
      have v := v.2
      intro e2
      have h := h e2
      have v := v e2
      refine ⟨h.1, ?_⟩
      have v := v h.1
      have h := h.2
      refine ⟨?_, ?_⟩
      · have h := h.1
        have v := v.1
        intro e4
        have h := h e4
        have v := v e4
        exact jcX12_jams_250 (k230 := wX12_jams_230 k256 Q n) (k230' := vX12_jams_230 k256' Q' n) (k230'' := wX12_jams_230 k256'' Q'' n) (fun _ _ _ _ h v => ih _ _ _ _ h v) hQ _ _ _ _ h v
      · have h := h.2
        have v := v.2
        intro e5
        have h := h e5
        have v := v e5
        exact jcX12_jams_250 (k230 := wX12_jams_230 k256 Q n) (k230' := vX12_jams_230 k256' Q' n) (k230'' := wX12_jams_230 k256'' Q'' n) (fun _ _ _ _ h v => ih _ _ _ _ h v) hQ _ _ _ _ h v
set_option maxRecDepth 100000 in
set_option maxHeartbeats 4000000 in
theorem jaX12_jams_230 {k256 k256' : Int32 → Int32 → km_S → Prop} (hk256 : ∀ y0 y1 y2, k256 y0 y1 y2 → k256' y0 y1 y2) {Q Q' : km_S → Prop} (hQ : ∀ y0, Q y0 → Q' y0) : ∀ (n m : Nat) (l1 : Int32) (l2 : Int32) (l3 : Int32) (μ : km_S), wX12_jams_230 k256 Q n l1 l2 l3 μ → vX12_jams_230 k256' Q' m l1 l2 l3 μ := by
  intro n
  induction n with
  | zero => intro m l1 l2 l3 μ h; exact h.elim
  | succ n ih =>
    intro m l1 l2 l3 μ h
    cases m with
    | zero => exact trivial
    | succ m =>
      unfold wX12_jams_230 at h
      unfold vX12_jams_230
      refine ⟨?_, ?_⟩
      · have h := h.1
        intro e1
        have h := h e1
        exact hk256 _ _ _ h
      · have h := h.2
        intro e2
        have h := h e2
        intro e3
        have h := h.2
        refine ⟨?_, ?_⟩
        · have h := h.1
          intro e4
          have h := h e4
          exact jaX12_jams_250 (k230 := wX12_jams_230 k256 Q n) (k230' := vX12_jams_230 k256' Q' m) (fun _ _ _ _ h => ih m _ _ _ _ h) hQ _ _ _ _ h
        · have h := h.2
          intro e5
          have h := h e5
          exact jaX12_jams_250 (k230 := wX12_jams_230 k256 Q n) (k230' := vX12_jams_230 k256' Q' m) (fun _ _ _ _ h => ih m _ _ _ _ h) hQ _ _ _ _ h
set_option maxRecDepth 100000 in
set_option maxHeartbeats 4000000 in
theorem jfX12_jams_230 {I : km_S → Prop} (W : gw_ I []) {k256 : Int32 → Int32 → km_S → Prop} (hk256 : ∀ y0 y1 y2, I y2 → k256 y0 y1 y2) {Q : km_S → Prop} (hQ : ∀ y0, I y0 → Q y0) : ∀ (n : Nat) (l1 : Int32) (l2 : Int32) (l3 : Int32) (μ : km_S), I μ → vX12_jams_230 k256 Q n l1 l2 l3 μ := by
  intro n
  induction n with
  | zero => intro l1 l2 l3 μ i; exact trivial
  | succ n ih =>
    intro l1 l2 l3 μ i
    unfold vX12_jams_230
    refine ⟨?_, ?_⟩
    · intro e1
      exact hk256 _ _ _ i
    · intro e2
      intro e3
      refine ⟨?_, ?_⟩
      · intro e4
        exact jfX12_jams_250 (I := I) (gw_sub W (by decide)) (k230 := vX12_jams_230 k256 Q n) (fun _ _ _ _ i => ih _ _ _ _ i) hQ _ _ _ _ i
      · intro e5
        exact jfX12_jams_250 (I := I) (gw_sub W (by decide)) (k230 := vX12_jams_230 k256 Q n) (fun _ _ _ _ i => ih _ _ _ _ i) hQ _ _ _ _ i
def vX12_jams_101 (k135 : Int32 → Int32 → Int32 → km_S → Prop) (Q : km_S → Prop) : Nat → Int32 → Int32 → Int32 → Int32 → km_S → Prop
  | 0, _, _, _, _, _ => True
  | n + 1, l1, l2, l3, l4, μ => vp_in l2 10 → (((km_a μ 14 l2.toNatClampNeg) ≤ l4 → k135 l1 l2 l3 μ) ∧ (¬ ((km_a μ 14 l2.toNatClampNeg) ≤ l4) → vX12_at0 l2 l4 μ (fun r14 μ13 => vp_in r14 120 → (((km_a μ13 33 r14.toNatClampNeg) = 0 → vX12_jams_129 (vX12_jams_101 k135 Q n) Q l1 l2 l3 l4 μ13) ∧ (¬ ((km_a μ13 33 r14.toNatClampNeg) = 0) → vX12_jams_129 (vX12_jams_101 k135 Q n) Q l1 l2 l4 l4 μ13)))))
set_option maxRecDepth 100000 in
set_option maxHeartbeats 4000000 in
theorem jcX12_jams_101 {k135 k135' k135'' : Int32 → Int32 → Int32 → km_S → Prop} (hk135 : ∀ y0 y1 y2 y3, k135 y0 y1 y2 y3 → k135' y0 y1 y2 y3 → k135'' y0 y1 y2 y3) {Q Q' Q'' : km_S → Prop} (hQ : ∀ y0, Q y0 → Q' y0 → Q'' y0) : ∀ (n : Nat) (l1 : Int32) (l2 : Int32) (l3 : Int32) (l4 : Int32) (μ : km_S), wX12_jams_101 k135 Q n l1 l2 l3 l4 μ → vX12_jams_101 k135' Q' n l1 l2 l3 l4 μ → wX12_jams_101 k135'' Q'' n l1 l2 l3 l4 μ := by
  intro n
  induction n with
  | zero => intro l1 l2 l3 l4 μ h; exact h.elim
  | succ n ih =>
    intro l1 l2 l3 l4 μ h v
    unfold wX12_jams_101 at h
    unfold vX12_jams_101 at v
    unfold wX12_jams_101
    refine ⟨h.1, ?_⟩
    have v := v h.1
    have h := h.2
    refine ⟨?_, ?_⟩
    · have h := h.1
      have v := v.1
      intro e2
      have h := h e2
      have v := v e2
      exact hk135 _ _ _ _ h v
    · have h := h.2
      have v := v.2
      intro e3
      have h := h e3
      have v := v e3
      refine jcX12_at0 ?_ _ _ _ h v
      intro r14 μ13 h v
      refine ⟨h.1, ?_⟩
      have v := v h.1
      have h := h.2
      refine ⟨?_, ?_⟩
      · have h := h.1
        have v := v.1
        intro e5
        have h := h e5
        have v := v e5
        exact jcX12_jams_129 (k101 := wX12_jams_101 k135 Q n) (k101' := vX12_jams_101 k135' Q' n) (k101'' := wX12_jams_101 k135'' Q'' n) (fun _ _ _ _ _ h v => ih _ _ _ _ _ h v) hQ _ _ _ _ _ h v
      · have h := h.2
        have v := v.2
        intro e6
        have h := h e6
        have v := v e6
        exact jcX12_jams_129 (k101 := wX12_jams_101 k135 Q n) (k101' := vX12_jams_101 k135' Q' n) (k101'' := wX12_jams_101 k135'' Q'' n) (fun _ _ _ _ _ h v => ih _ _ _ _ _ h v) hQ _ _ _ _ _ h v
set_option maxRecDepth 100000 in
set_option maxHeartbeats 4000000 in
theorem jaX12_jams_101 {k135 k135' : Int32 → Int32 → Int32 → km_S → Prop} (hk135 : ∀ y0 y1 y2 y3, k135 y0 y1 y2 y3 → k135' y0 y1 y2 y3) {Q Q' : km_S → Prop} (hQ : ∀ y0, Q y0 → Q' y0) : ∀ (n m : Nat) (l1 : Int32) (l2 : Int32) (l3 : Int32) (l4 : Int32) (μ : km_S), wX12_jams_101 k135 Q n l1 l2 l3 l4 μ → vX12_jams_101 k135' Q' m l1 l2 l3 l4 μ := by
  intro n
  induction n with
  | zero => intro m l1 l2 l3 l4 μ h; exact h.elim
  | succ n ih =>
    intro m l1 l2 l3 l4 μ h
    cases m with
    | zero => exact trivial
    | succ m =>
      unfold wX12_jams_101 at h
      unfold vX12_jams_101
      intro e1
      have h := h.2
      refine ⟨?_, ?_⟩
      · have h := h.1
        intro e2
        have h := h e2
        exact hk135 _ _ _ _ h
      · have h := h.2
        intro e3
        have h := h e3
        refine jaX12_at0 ?_ _ _ _ h
        intro r14 μ13 h
        intro e4
        have h := h.2
        refine ⟨?_, ?_⟩
        · have h := h.1
          intro e5
          have h := h e5
          exact jaX12_jams_129 (k101 := wX12_jams_101 k135 Q n) (k101' := vX12_jams_101 k135' Q' m) (fun _ _ _ _ _ h => ih m _ _ _ _ _ h) hQ _ _ _ _ _ h
        · have h := h.2
          intro e6
          have h := h e6
          exact jaX12_jams_129 (k101 := wX12_jams_101 k135 Q n) (k101' := vX12_jams_101 k135' Q' m) (fun _ _ _ _ _ h => ih m _ _ _ _ _ h) hQ _ _ _ _ _ h
set_option maxRecDepth 100000 in
set_option maxHeartbeats 4000000 in
theorem jfX12_jams_101 {I : km_S → Prop} (W : gw_ I []) {k135 : Int32 → Int32 → Int32 → km_S → Prop} (hk135 : ∀ y0 y1 y2 y3, I y3 → k135 y0 y1 y2 y3) {Q : km_S → Prop} (hQ : ∀ y0, I y0 → Q y0) : ∀ (n : Nat) (l1 : Int32) (l2 : Int32) (l3 : Int32) (l4 : Int32) (μ : km_S), I μ → vX12_jams_101 k135 Q n l1 l2 l3 l4 μ := by
  intro n
  induction n with
  | zero => intro l1 l2 l3 l4 μ i; exact trivial
  | succ n ih =>
    intro l1 l2 l3 l4 μ i
    unfold vX12_jams_101
    intro e1
    refine ⟨?_, ?_⟩
    · intro e2
      exact hk135 _ _ _ _ i
    · intro e3
      refine jfX12_at0 (I := I) (gw_sub W (by decide)) ?_ _ _ _ i
      intro r14 μ13 iμ13
      intro e4
      refine ⟨?_, ?_⟩
      · intro e5
        exact jfX12_jams_129 (I := I) (gw_sub W (by decide)) (k101 := vX12_jams_101 k135 Q n) (fun _ _ _ _ _ i => ih _ _ _ _ _ i) hQ _ _ _ _ _ iμ13
      · intro e6
        exact jfX12_jams_129 (I := I) (gw_sub W (by decide)) (k101 := vX12_jams_101 k135 Q n) (fun _ _ _ _ _ i => ih _ _ _ _ _ i) hQ _ _ _ _ _ iμ13
def vX12_jams_258 (k302 : Int32 → km_S → Prop) (Q : km_S → Prop) : Nat → Int32 → Int32 → Int32 → km_S → Prop
  | 0, _, _, _, _ => True
  | n + 1, l1, l2, l3, μ => vp_in l1 10 → (((km_a μ 14 l1.toNatClampNeg) ≤ l3 → k302 l1 μ) ∧ (¬ ((km_a μ 14 l1.toNatClampNeg) ≤ l3) → ((l2 = 0 → k302 l1 μ) ∧ (¬ (l2 = 0) → vX12_at0 l1 l3 μ (fun r21 μ20 => vp_in r21 120 → (((km_a μ20 33 r21.toNatClampNeg) = 0 → vX12_jams_296 (vX12_jams_258 k302 Q n) Q l1 l2 l3 μ20) ∧ (¬ ((km_a μ20 33 r21.toNatClampNeg) = 0) → vX12_at0 l1 l3 μ20 (fun r25 μ24 => vp_in r25 120 → ∀ μ27, μ27 = km_sa μ24 34 r25.toNatClampNeg (vp_nar .boolean 1) → vX12_jams_296 (vX12_jams_258 k302 Q n) Q l1 l2 l3 μ27))))))))
set_option maxRecDepth 100000 in
set_option maxHeartbeats 4000000 in
theorem jcX12_jams_258 {k302 k302' k302'' : Int32 → km_S → Prop} (hk302 : ∀ y0 y1, k302 y0 y1 → k302' y0 y1 → k302'' y0 y1) {Q Q' Q'' : km_S → Prop} (hQ : ∀ y0, Q y0 → Q' y0 → Q'' y0) : ∀ (n : Nat) (l1 : Int32) (l2 : Int32) (l3 : Int32) (μ : km_S), wX12_jams_258 k302 Q n l1 l2 l3 μ → vX12_jams_258 k302' Q' n l1 l2 l3 μ → wX12_jams_258 k302'' Q'' n l1 l2 l3 μ := by
  intro n
  induction n with
  | zero => intro l1 l2 l3 μ h; exact h.elim
  | succ n ih =>
    intro l1 l2 l3 μ h v
    unfold wX12_jams_258 at h
    unfold vX12_jams_258 at v
    unfold wX12_jams_258
    refine ⟨h.1, ?_⟩
    have v := v h.1
    have h := h.2
    refine ⟨?_, ?_⟩
    · have h := h.1
      have v := v.1
      intro e2
      have h := h e2
      have v := v e2
      exact hk302 _ _ h v
    · have h := h.2
      have v := v.2
      intro e3
      have h := h e3
      have v := v e3
      refine ⟨?_, ?_⟩
      · have h := h.1
        have v := v.1
        intro e4
        have h := h e4
        have v := v e4
        exact hk302 _ _ h v
      · have h := h.2
        have v := v.2
        intro e5
        have h := h e5
        have v := v e5
        refine jcX12_at0 ?_ _ _ _ h v
        intro r21 μ20 h v
        refine ⟨h.1, ?_⟩
        have v := v h.1
        have h := h.2
        refine ⟨?_, ?_⟩
        · have h := h.1
          have v := v.1
          intro e7
          have h := h e7
          have v := v e7
          exact jcX12_jams_296 (k258 := wX12_jams_258 k302 Q n) (k258' := vX12_jams_258 k302' Q' n) (k258'' := wX12_jams_258 k302'' Q'' n) (fun _ _ _ _ h v => ih _ _ _ _ h v) hQ _ _ _ _ h v
        · have h := h.2
          have v := v.2
          intro e8
          have h := h e8
          have v := v e8
          refine jcX12_at0 ?_ _ _ _ h v
          intro r25 μ24 h v
          refine ⟨h.1, ?_⟩
          have v := v h.1
          have h := h.2
          intro μ27 e10
          have h := h μ27 e10
          have v := v μ27 e10
          exact jcX12_jams_296 (k258 := wX12_jams_258 k302 Q n) (k258' := vX12_jams_258 k302' Q' n) (k258'' := wX12_jams_258 k302'' Q'' n) (fun _ _ _ _ h v => ih _ _ _ _ h v) hQ _ _ _ _ h v
set_option maxRecDepth 100000 in
set_option maxHeartbeats 4000000 in
theorem jaX12_jams_258 {k302 k302' : Int32 → km_S → Prop} (hk302 : ∀ y0 y1, k302 y0 y1 → k302' y0 y1) {Q Q' : km_S → Prop} (hQ : ∀ y0, Q y0 → Q' y0) : ∀ (n m : Nat) (l1 : Int32) (l2 : Int32) (l3 : Int32) (μ : km_S), wX12_jams_258 k302 Q n l1 l2 l3 μ → vX12_jams_258 k302' Q' m l1 l2 l3 μ := by
  intro n
  induction n with
  | zero => intro m l1 l2 l3 μ h; exact h.elim
  | succ n ih =>
    intro m l1 l2 l3 μ h
    cases m with
    | zero => exact trivial
    | succ m =>
      unfold wX12_jams_258 at h
      unfold vX12_jams_258
      intro e1
      have h := h.2
      refine ⟨?_, ?_⟩
      · have h := h.1
        intro e2
        have h := h e2
        exact hk302 _ _ h
      · have h := h.2
        intro e3
        have h := h e3
        refine ⟨?_, ?_⟩
        · have h := h.1
          intro e4
          have h := h e4
          exact hk302 _ _ h
        · have h := h.2
          intro e5
          have h := h e5
          refine jaX12_at0 ?_ _ _ _ h
          intro r21 μ20 h
          intro e6
          have h := h.2
          refine ⟨?_, ?_⟩
          · have h := h.1
            intro e7
            have h := h e7
            exact jaX12_jams_296 (k258 := wX12_jams_258 k302 Q n) (k258' := vX12_jams_258 k302' Q' m) (fun _ _ _ _ h => ih m _ _ _ _ h) hQ _ _ _ _ h
          · have h := h.2
            intro e8
            have h := h e8
            refine jaX12_at0 ?_ _ _ _ h
            intro r25 μ24 h
            intro e9
            have h := h.2
            intro μ27 e10
            have h := h μ27 e10
            exact jaX12_jams_296 (k258 := wX12_jams_258 k302 Q n) (k258' := vX12_jams_258 k302' Q' m) (fun _ _ _ _ h => ih m _ _ _ _ h) hQ _ _ _ _ h
set_option maxRecDepth 100000 in
set_option maxHeartbeats 4000000 in
theorem jfX12_jams_258 {I : km_S → Prop} (W : gw_ I [34]) {k302 : Int32 → km_S → Prop} (hk302 : ∀ y0 y1, I y1 → k302 y0 y1) {Q : km_S → Prop} (hQ : ∀ y0, I y0 → Q y0) : ∀ (n : Nat) (l1 : Int32) (l2 : Int32) (l3 : Int32) (μ : km_S), I μ → vX12_jams_258 k302 Q n l1 l2 l3 μ := by
  intro n
  induction n with
  | zero => intro l1 l2 l3 μ i; exact trivial
  | succ n ih =>
    intro l1 l2 l3 μ i
    unfold vX12_jams_258
    intro e1
    refine ⟨?_, ?_⟩
    · intro e2
      exact hk302 _ _ i
    · intro e3
      refine ⟨?_, ?_⟩
      · intro e4
        exact hk302 _ _ i
      · intro e5
        refine jfX12_at0 (I := I) (gw_sub W (by decide)) ?_ _ _ _ i
        intro r21 μ20 iμ20
        intro e6
        refine ⟨?_, ?_⟩
        · intro e7
          exact jfX12_jams_296 (I := I) (gw_sub W (by decide)) (k258 := vX12_jams_258 k302 Q n) (fun _ _ _ _ i => ih _ _ _ _ i) hQ _ _ _ _ iμ20
        · intro e8
          refine jfX12_at0 (I := I) (gw_sub W (by decide)) ?_ _ _ _ iμ20
          intro r25 μ24 iμ24
          intro e9
          intro μ27 e10
          have iμ27 : I μ27 := by rw [e10]; exact ((W _ iμ24) 34 (by decide)).2.1 _ _
          exact jfX12_jams_296 (I := I) (gw_sub W (by decide)) (k258 := vX12_jams_258 k302 Q n) (fun _ _ _ _ i => ih _ _ _ _ i) hQ _ _ _ _ iμ27
def vX12_jams_256 (k213 : Int32 → km_S → Prop) (Q : km_S → Prop) (l1 : Int32) (l2 : Int32) (μ : km_S) : Prop := ∀ j, vX12_jams_258 (vX12_jams_302 k213 Q) Q j l1 l2 0 μ
set_option maxRecDepth 100000 in
set_option maxHeartbeats 4000000 in
theorem jcX12_jams_256 {k213 k213' k213'' : Int32 → km_S → Prop} (hk213 : ∀ y0 y1, k213 y0 y1 → k213' y0 y1 → k213'' y0 y1) {Q Q' Q'' : km_S → Prop} (hQ : ∀ y0, Q y0 → Q' y0 → Q'' y0) : ∀ (l1 : Int32) (l2 : Int32) (μ : km_S), wX12_jams_256 k213 Q l1 l2 μ → vX12_jams_256 k213' Q' l1 l2 μ → wX12_jams_256 k213'' Q'' l1 l2 μ := by
  intro l1 l2 μ h v
  unfold wX12_jams_256 at h
  unfold vX12_jams_256 at v
  unfold wX12_jams_256
  obtain ⟨j, h⟩ := h
  refine ⟨j, ?_⟩
  have v := v j
  exact jcX12_jams_258 (k302 := wX12_jams_302 k213 Q) (k302' := vX12_jams_302 k213' Q') (k302'' := wX12_jams_302 k213'' Q'') (fun _ _ h v => jcX12_jams_302 hk213 hQ _ _ h v) hQ _ _ _ _ _ h v
set_option maxRecDepth 100000 in
set_option maxHeartbeats 4000000 in
theorem jaX12_jams_256 {k213 k213' : Int32 → km_S → Prop} (hk213 : ∀ y0 y1, k213 y0 y1 → k213' y0 y1) {Q Q' : km_S → Prop} (hQ : ∀ y0, Q y0 → Q' y0) : ∀ (l1 : Int32) (l2 : Int32) (μ : km_S), wX12_jams_256 k213 Q l1 l2 μ → vX12_jams_256 k213' Q' l1 l2 μ := by
  intro l1 l2 μ h
  unfold wX12_jams_256 at h
  unfold vX12_jams_256
  obtain ⟨j, h⟩ := h
  intro j9
  exact jaX12_jams_258 (k302 := wX12_jams_302 k213 Q) (k302' := vX12_jams_302 k213' Q') (fun _ _ h => jaX12_jams_302 hk213 hQ _ _ h) hQ _ j9 _ _ _ _ h
set_option maxRecDepth 100000 in
set_option maxHeartbeats 4000000 in
theorem jfX12_jams_256 {I : km_S → Prop} (W : gw_ I [34]) {k213 : Int32 → km_S → Prop} (hk213 : ∀ y0 y1, I y1 → k213 y0 y1) {Q : km_S → Prop} (hQ : ∀ y0, I y0 → Q y0) : ∀ (l1 : Int32) (l2 : Int32) (μ : km_S), I μ → vX12_jams_256 k213 Q l1 l2 μ := by
  intro l1 l2 μ i
  unfold vX12_jams_256
  intro j
  exact jfX12_jams_258 (I := I) (gw_sub W (by decide)) (k302 := vX12_jams_302 k213 Q) (fun _ _ i => jfX12_jams_302 (I := I) (gw_sub W (by decide)) hk213 hQ _ _ i) hQ _ _ _ _ _ i
def vX12_jams_12 (k73 : Int32 → km_S → Prop) (Q : km_S → Prop) : Nat → Int32 → Int32 → km_S → Prop
  | 0, _, _, _ => True
  | n + 1, l1, l2, μ => vp_in l1 10 → (((km_a μ 14 l1.toNatClampNeg) ≤ l2 → k73 l1 μ) ∧ (¬ ((km_a μ 14 l1.toNatClampNeg) ≤ l2) → vX12_at0 l1 l2 μ (fun r32 μ31 => vp_in r32 120 → vp_in l1 10 → ((¬ (km_a μ31 31 r32.toNatClampNeg) = (km_a μ31 15 l1.toNatClampNeg) → vX12_jams_67 (vX12_jams_12 k73 Q n) Q l1 l2 μ31) ∧ ((km_a μ31 31 r32.toNatClampNeg) = (km_a μ31 15 l1.toNatClampNeg) → vp_in l1 10 → vp_in l1 10 → (((km_a μ31 16 l1.toNatClampNeg) ≤ (km_a μ31 18 l1.toNatClampNeg) → vX12_jams_67 (vX12_jams_12 k73 Q n) Q l1 l2 μ31) ∧ (¬ ((km_a μ31 16 l1.toNatClampNeg) ≤ (km_a μ31 18 l1.toNatClampNeg)) → vX12_at0 l1 l2 μ31 (fun r40 μ39 => vp_in r40 120 → ∀ μ42, μ42 = km_sa μ39 33 r40.toNatClampNeg (vp_nar .boolean 1) → vX12_jams_67 (vX12_jams_12 k73 Q n) Q l1 l2 μ42))))))))
set_option maxRecDepth 100000 in
set_option maxHeartbeats 4000000 in
theorem jcX12_jams_12 {k73 k73' k73'' : Int32 → km_S → Prop} (hk73 : ∀ y0 y1, k73 y0 y1 → k73' y0 y1 → k73'' y0 y1) {Q Q' Q'' : km_S → Prop} (hQ : ∀ y0, Q y0 → Q' y0 → Q'' y0) : ∀ (n : Nat) (l1 : Int32) (l2 : Int32) (μ : km_S), wX12_jams_12 k73 Q n l1 l2 μ → vX12_jams_12 k73' Q' n l1 l2 μ → wX12_jams_12 k73'' Q'' n l1 l2 μ := by
  intro n
  induction n with
  | zero => intro l1 l2 μ h; exact h.elim
  | succ n ih =>
    intro l1 l2 μ h v
    unfold wX12_jams_12 at h
    unfold vX12_jams_12 at v
    unfold wX12_jams_12
    refine ⟨h.1, ?_⟩
    have v := v h.1
    have h := h.2
    refine ⟨?_, ?_⟩
    · have h := h.1
      have v := v.1
      intro e2
      have h := h e2
      have v := v e2
      exact hk73 _ _ h v
    · have h := h.2
      have v := v.2
      intro e3
      have h := h e3
      have v := v e3
      refine jcX12_at0 ?_ _ _ _ h v
      intro r32 μ31 h v
      refine ⟨h.1, ?_⟩
      have v := v h.1
      have h := h.2
      refine ⟨h.1, ?_⟩
      have v := v h.1
      have h := h.2
      refine ⟨?_, ?_⟩
      · have h := h.1
        have v := v.1
        intro e6
        have h := h e6
        have v := v e6
        exact jcX12_jams_67 (k12 := wX12_jams_12 k73 Q n) (k12' := vX12_jams_12 k73' Q' n) (k12'' := wX12_jams_12 k73'' Q'' n) (fun _ _ _ h v => ih _ _ _ h v) hQ _ _ _ h v
      · have h := h.2
        have v := v.2
        intro e7
        have h := h e7
        have v := v e7
        refine ⟨h.1, ?_⟩
        have v := v h.1
        have h := h.2
        refine ⟨h.1, ?_⟩
        have v := v h.1
        have h := h.2
        refine ⟨?_, ?_⟩
        · have h := h.1
          have v := v.1
          intro e10
          have h := h e10
          have v := v e10
          exact jcX12_jams_67 (k12 := wX12_jams_12 k73 Q n) (k12' := vX12_jams_12 k73' Q' n) (k12'' := wX12_jams_12 k73'' Q'' n) (fun _ _ _ h v => ih _ _ _ h v) hQ _ _ _ h v
        · have h := h.2
          have v := v.2
          intro e11
          have h := h e11
          have v := v e11
          refine jcX12_at0 ?_ _ _ _ h v
          intro r40 μ39 h v
          refine ⟨h.1, ?_⟩
          have v := v h.1
          have h := h.2
          intro μ42 e13
          have h := h μ42 e13
          have v := v μ42 e13
          exact jcX12_jams_67 (k12 := wX12_jams_12 k73 Q n) (k12' := vX12_jams_12 k73' Q' n) (k12'' := wX12_jams_12 k73'' Q'' n) (fun _ _ _ h v => ih _ _ _ h v) hQ _ _ _ h v
set_option maxRecDepth 100000 in
set_option maxHeartbeats 4000000 in
theorem jaX12_jams_12 {k73 k73' : Int32 → km_S → Prop} (hk73 : ∀ y0 y1, k73 y0 y1 → k73' y0 y1) {Q Q' : km_S → Prop} (hQ : ∀ y0, Q y0 → Q' y0) : ∀ (n m : Nat) (l1 : Int32) (l2 : Int32) (μ : km_S), wX12_jams_12 k73 Q n l1 l2 μ → vX12_jams_12 k73' Q' m l1 l2 μ := by
  intro n
  induction n with
  | zero => intro m l1 l2 μ h; exact h.elim
  | succ n ih =>
    intro m l1 l2 μ h
    cases m with
    | zero => exact trivial
    | succ m =>
      unfold wX12_jams_12 at h
      unfold vX12_jams_12
      intro e1
      have h := h.2
      refine ⟨?_, ?_⟩
      · have h := h.1
        intro e2
        have h := h e2
        exact hk73 _ _ h
      · have h := h.2
        intro e3
        have h := h e3
        refine jaX12_at0 ?_ _ _ _ h
        intro r32 μ31 h
        intro e4
        have h := h.2
        intro e5
        have h := h.2
        refine ⟨?_, ?_⟩
        · have h := h.1
          intro e6
          have h := h e6
          exact jaX12_jams_67 (k12 := wX12_jams_12 k73 Q n) (k12' := vX12_jams_12 k73' Q' m) (fun _ _ _ h => ih m _ _ _ h) hQ _ _ _ h
        · have h := h.2
          intro e7
          have h := h e7
          intro e8
          have h := h.2
          intro e9
          have h := h.2
          refine ⟨?_, ?_⟩
          · have h := h.1
            intro e10
            have h := h e10
            exact jaX12_jams_67 (k12 := wX12_jams_12 k73 Q n) (k12' := vX12_jams_12 k73' Q' m) (fun _ _ _ h => ih m _ _ _ h) hQ _ _ _ h
          · have h := h.2
            intro e11
            have h := h e11
            refine jaX12_at0 ?_ _ _ _ h
            intro r40 μ39 h
            intro e12
            have h := h.2
            intro μ42 e13
            have h := h μ42 e13
            exact jaX12_jams_67 (k12 := wX12_jams_12 k73 Q n) (k12' := vX12_jams_12 k73' Q' m) (fun _ _ _ h => ih m _ _ _ h) hQ _ _ _ h
set_option maxRecDepth 100000 in
set_option maxHeartbeats 4000000 in
theorem jfX12_jams_12 {I : km_S → Prop} (W : gw_ I [33]) {k73 : Int32 → km_S → Prop} (hk73 : ∀ y0 y1, I y1 → k73 y0 y1) {Q : km_S → Prop} (hQ : ∀ y0, I y0 → Q y0) : ∀ (n : Nat) (l1 : Int32) (l2 : Int32) (μ : km_S), I μ → vX12_jams_12 k73 Q n l1 l2 μ := by
  intro n
  induction n with
  | zero => intro l1 l2 μ i; exact trivial
  | succ n ih =>
    intro l1 l2 μ i
    unfold vX12_jams_12
    intro e1
    refine ⟨?_, ?_⟩
    · intro e2
      exact hk73 _ _ i
    · intro e3
      refine jfX12_at0 (I := I) (gw_sub W (by decide)) ?_ _ _ _ i
      intro r32 μ31 iμ31
      intro e4
      intro e5
      refine ⟨?_, ?_⟩
      · intro e6
        exact jfX12_jams_67 (I := I) (gw_sub W (by decide)) (k12 := vX12_jams_12 k73 Q n) (fun _ _ _ i => ih _ _ _ i) hQ _ _ _ iμ31
      · intro e7
        intro e8
        intro e9
        refine ⟨?_, ?_⟩
        · intro e10
          exact jfX12_jams_67 (I := I) (gw_sub W (by decide)) (k12 := vX12_jams_12 k73 Q n) (fun _ _ _ i => ih _ _ _ i) hQ _ _ _ iμ31
        · intro e11
          refine jfX12_at0 (I := I) (gw_sub W (by decide)) ?_ _ _ _ iμ31
          intro r40 μ39 iμ39
          intro e12
          intro μ42 e13
          have iμ42 : I μ42 := by rw [e13]; exact ((W _ iμ39) 33 (by decide)).2.1 _ _
          exact jfX12_jams_67 (I := I) (gw_sub W (by decide)) (k12 := vX12_jams_12 k73 Q n) (fun _ _ _ i => ih _ _ _ i) hQ _ _ _ iμ42
def vX12_jams_2 (k79 : km_S → Prop) (Q : km_S → Prop) : Nat → Int32 → km_S → Prop
  | 0, _, _ => True
  | n + 1, l1, μ => (((km_i μ 3) ≤ l1 → k79 μ) ∧ (¬ ((km_i μ 3) ≤ l1) → ∀ j, vX12_jams_12 (vX12_jams_73 (vX12_jams_2 k79 Q n) Q) Q j l1 0 μ))
set_option maxRecDepth 100000 in
set_option maxHeartbeats 4000000 in
theorem jcX12_jams_2 {k79 k79' k79'' : km_S → Prop} (hk79 : ∀ y0, k79 y0 → k79' y0 → k79'' y0) {Q Q' Q'' : km_S → Prop} (hQ : ∀ y0, Q y0 → Q' y0 → Q'' y0) : ∀ (n : Nat) (l1 : Int32) (μ : km_S), wX12_jams_2 k79 Q n l1 μ → vX12_jams_2 k79' Q' n l1 μ → wX12_jams_2 k79'' Q'' n l1 μ := by
  intro n
  induction n with
  | zero => intro l1 μ h; exact h.elim
  | succ n ih =>
    intro l1 μ h v
    unfold wX12_jams_2 at h
    unfold vX12_jams_2 at v
    unfold wX12_jams_2
    refine ⟨?_, ?_⟩
    · have h := h.1
      have v := v.1
      intro e1
      have h := h e1
      have v := v e1
      exact hk79 _ h v
    · have h := h.2
      have v := v.2
      intro e2
      have h := h e2
      have v := v e2
      obtain ⟨j, h⟩ := h
      refine ⟨j, ?_⟩
      have v := v j
      exact jcX12_jams_12 (k73 := wX12_jams_73 (wX12_jams_2 k79 Q n) Q) (k73' := vX12_jams_73 (vX12_jams_2 k79' Q' n) Q') (k73'' := wX12_jams_73 (wX12_jams_2 k79'' Q'' n) Q'') (fun _ _ h v => jcX12_jams_73 (k2 := wX12_jams_2 k79 Q n) (k2' := vX12_jams_2 k79' Q' n) (k2'' := wX12_jams_2 k79'' Q'' n) (fun _ _ h v => ih _ _ h v) hQ _ _ h v) hQ _ _ _ _ h v
set_option maxRecDepth 100000 in
set_option maxHeartbeats 4000000 in
theorem jaX12_jams_2 {k79 k79' : km_S → Prop} (hk79 : ∀ y0, k79 y0 → k79' y0) {Q Q' : km_S → Prop} (hQ : ∀ y0, Q y0 → Q' y0) : ∀ (n m : Nat) (l1 : Int32) (μ : km_S), wX12_jams_2 k79 Q n l1 μ → vX12_jams_2 k79' Q' m l1 μ := by
  intro n
  induction n with
  | zero => intro m l1 μ h; exact h.elim
  | succ n ih =>
    intro m l1 μ h
    cases m with
    | zero => exact trivial
    | succ m =>
      unfold wX12_jams_2 at h
      unfold vX12_jams_2
      refine ⟨?_, ?_⟩
      · have h := h.1
        intro e1
        have h := h e1
        exact hk79 _ h
      · have h := h.2
        intro e2
        have h := h e2
        obtain ⟨j, h⟩ := h
        intro j9
        exact jaX12_jams_12 (k73 := wX12_jams_73 (wX12_jams_2 k79 Q n) Q) (k73' := vX12_jams_73 (vX12_jams_2 k79' Q' m) Q') (fun _ _ h => jaX12_jams_73 (k2 := wX12_jams_2 k79 Q n) (k2' := vX12_jams_2 k79' Q' m) (fun _ _ h => ih m _ _ h) hQ _ _ h) hQ _ j9 _ _ _ h
set_option maxRecDepth 100000 in
set_option maxHeartbeats 4000000 in
theorem jfX12_jams_2 {I : km_S → Prop} (W : gw_ I [33]) {k79 : km_S → Prop} (hk79 : ∀ y0, I y0 → k79 y0) {Q : km_S → Prop} (hQ : ∀ y0, I y0 → Q y0) : ∀ (n : Nat) (l1 : Int32) (μ : km_S), I μ → vX12_jams_2 k79 Q n l1 μ := by
  intro n
  induction n with
  | zero => intro l1 μ i; exact trivial
  | succ n ih =>
    intro l1 μ i
    unfold vX12_jams_2
    refine ⟨?_, ?_⟩
    · intro e1
      exact hk79 _ i
    · intro e2
      intro j
      exact jfX12_jams_12 (I := I) (gw_sub W (by decide)) (k73 := vX12_jams_73 (vX12_jams_2 k79 Q n) Q) (fun _ _ i => jfX12_jams_73 (I := I) (gw_sub W (by decide)) (k2 := vX12_jams_2 k79 Q n) (fun _ _ i => ih _ _ i) hQ _ _ i) hQ _ _ _ _ i
def vX12_jams_135 (k81 : Int32 → km_S → Prop) (Q : km_S → Prop) (l1 : Int32) (l2 : Int32) (l3 : Int32) (μ : km_S) : Prop := ((l3 = (-1) → vX12_jams_205 k81 Q l1 μ) ∧ (¬ (l3 = (-1)) → vp_in l1 6 → ((((km_i μ 2) - 1) < (km_a μ 45 l1.toNatClampNeg) → vX12_jams_205 k81 Q l1 μ) ∧ (¬ (((km_i μ 2) - 1) < (km_a μ 45 l1.toNatClampNeg)) → vp_in l1 6 → ((¬ (km_a μ 46 l1.toNatClampNeg) = ((km_i μ 2) - 1) → vX12_at0 l2 l3 μ (fun r51 μ50 => vp_in r51 120 → ∀ μ53, μ53 = km_sa μ50 33 r51.toNatClampNeg (vp_nar .boolean 0) → vX12_at0 l2 l3 μ53 (fun r55 μ54 => vp_in r55 120 → ∀ μ57, μ57 = km_sa μ54 34 r55.toNatClampNeg (vp_nar .boolean 0) → vp_in l1 6 → ∀ μ59, μ59 = km_sa μ57 46 l1.toNatClampNeg (km_i μ57 2) → vX12_jams_205 k81 Q l1 μ59))) ∧ ((km_a μ 46 l1.toNatClampNeg) = ((km_i μ 2) - 1) → vX12_jams_205 k81 Q l1 μ))))))
set_option maxRecDepth 100000 in
set_option maxHeartbeats 4000000 in
theorem jcX12_jams_135 {k81 k81' k81'' : Int32 → km_S → Prop} (hk81 : ∀ y0 y1, k81 y0 y1 → k81' y0 y1 → k81'' y0 y1) {Q Q' Q'' : km_S → Prop} (hQ : ∀ y0, Q y0 → Q' y0 → Q'' y0) : ∀ (l1 : Int32) (l2 : Int32) (l3 : Int32) (μ : km_S), wX12_jams_135 k81 Q l1 l2 l3 μ → vX12_jams_135 k81' Q' l1 l2 l3 μ → wX12_jams_135 k81'' Q'' l1 l2 l3 μ := by
  intro l1 l2 l3 μ h v
  unfold wX12_jams_135 at h
  unfold vX12_jams_135 at v
  unfold wX12_jams_135
  refine ⟨?_, ?_⟩
  · have h := h.1
    have v := v.1
    intro e1
    have h := h e1
    have v := v e1
    exact jcX12_jams_205 hk81 hQ _ _ h v
  · have h := h.2
    have v := v.2
    intro e2
    have h := h e2
    have v := v e2
    refine ⟨h.1, ?_⟩
    have v := v h.1
    have h := h.2
    refine ⟨?_, ?_⟩
    · have h := h.1
      have v := v.1
      intro e4
      have h := h e4
      have v := v e4
      exact jcX12_jams_205 hk81 hQ _ _ h v
    · have h := h.2
      have v := v.2
      intro e5
      have h := h e5
      have v := v e5
      refine ⟨h.1, ?_⟩
      have v := v h.1
      have h := h.2
      refine ⟨?_, ?_⟩
      · have h := h.1
        have v := v.1
        intro e7
        have h := h e7
        have v := v e7
        refine jcX12_at0 ?_ _ _ _ h v
        intro r51 μ50 h v
        refine ⟨h.1, ?_⟩
        have v := v h.1
        have h := h.2
        intro μ53 e9
        have h := h μ53 e9
        have v := v μ53 e9
        refine jcX12_at0 ?_ _ _ _ h v
        intro r55 μ54 h v
        refine ⟨h.1, ?_⟩
        have v := v h.1
        have h := h.2
        intro μ57 e11
        have h := h μ57 e11
        have v := v μ57 e11
        refine ⟨h.1, ?_⟩
        have v := v h.1
        have h := h.2
        intro μ59 e13
        have h := h μ59 e13
        have v := v μ59 e13
        exact jcX12_jams_205 hk81 hQ _ _ h v
      · have h := h.2
        have v := v.2
        intro e14
        have h := h e14
        have v := v e14
        exact jcX12_jams_205 hk81 hQ _ _ h v
set_option maxRecDepth 100000 in
set_option maxHeartbeats 4000000 in
theorem jaX12_jams_135 {k81 k81' : Int32 → km_S → Prop} (hk81 : ∀ y0 y1, k81 y0 y1 → k81' y0 y1) {Q Q' : km_S → Prop} (hQ : ∀ y0, Q y0 → Q' y0) : ∀ (l1 : Int32) (l2 : Int32) (l3 : Int32) (μ : km_S), wX12_jams_135 k81 Q l1 l2 l3 μ → vX12_jams_135 k81' Q' l1 l2 l3 μ := by
  intro l1 l2 l3 μ h
  unfold wX12_jams_135 at h
  unfold vX12_jams_135
  refine ⟨?_, ?_⟩
  · have h := h.1
    intro e1
    have h := h e1
    exact jaX12_jams_205 hk81 hQ _ _ h
  · have h := h.2
    intro e2
    have h := h e2
    intro e3
    have h := h.2
    refine ⟨?_, ?_⟩
    · have h := h.1
      intro e4
      have h := h e4
      exact jaX12_jams_205 hk81 hQ _ _ h
    · have h := h.2
      intro e5
      have h := h e5
      intro e6
      have h := h.2
      refine ⟨?_, ?_⟩
      · have h := h.1
        intro e7
        have h := h e7
        refine jaX12_at0 ?_ _ _ _ h
        intro r51 μ50 h
        intro e8
        have h := h.2
        intro μ53 e9
        have h := h μ53 e9
        refine jaX12_at0 ?_ _ _ _ h
        intro r55 μ54 h
        intro e10
        have h := h.2
        intro μ57 e11
        have h := h μ57 e11
        intro e12
        have h := h.2
        intro μ59 e13
        have h := h μ59 e13
        exact jaX12_jams_205 hk81 hQ _ _ h
      · have h := h.2
        intro e14
        have h := h e14
        exact jaX12_jams_205 hk81 hQ _ _ h
set_option maxRecDepth 100000 in
set_option maxHeartbeats 4000000 in
theorem jfX12_jams_135 {I : km_S → Prop} (W : gw_ I [33, 34, 46]) {k81 : Int32 → km_S → Prop} (hk81 : ∀ y0 y1, I y1 → k81 y0 y1) {Q : km_S → Prop} (hQ : ∀ y0, I y0 → Q y0) : ∀ (l1 : Int32) (l2 : Int32) (l3 : Int32) (μ : km_S), I μ → vX12_jams_135 k81 Q l1 l2 l3 μ := by
  intro l1 l2 l3 μ i
  unfold vX12_jams_135
  refine ⟨?_, ?_⟩
  · intro e1
    exact jfX12_jams_205 (I := I) (gw_sub W (by decide)) hk81 hQ _ _ i
  · intro e2
    intro e3
    refine ⟨?_, ?_⟩
    · intro e4
      exact jfX12_jams_205 (I := I) (gw_sub W (by decide)) hk81 hQ _ _ i
    · intro e5
      intro e6
      refine ⟨?_, ?_⟩
      · intro e7
        refine jfX12_at0 (I := I) (gw_sub W (by decide)) ?_ _ _ _ i
        intro r51 μ50 iμ50
        intro e8
        intro μ53 e9
        have iμ53 : I μ53 := by rw [e9]; exact ((W _ iμ50) 33 (by decide)).2.1 _ _
        refine jfX12_at0 (I := I) (gw_sub W (by decide)) ?_ _ _ _ iμ53
        intro r55 μ54 iμ54
        intro e10
        intro μ57 e11
        have iμ57 : I μ57 := by rw [e11]; exact ((W _ iμ54) 34 (by decide)).2.1 _ _
        intro e12
        intro μ59 e13
        have iμ59 : I μ59 := by rw [e13]; exact ((W _ iμ57) 46 (by decide)).2.1 _ _
        exact jfX12_jams_205 (I := I) (gw_sub W (by decide)) hk81 hQ _ _ iμ59
      · intro e14
        exact jfX12_jams_205 (I := I) (gw_sub W (by decide)) hk81 hQ _ _ i
def vX12_jams_213 (Q : km_S → Prop) : Nat → Int32 → km_S → Prop
  | 0, _, _ => True
  | n + 1, l1, μ => (((km_i μ 3) ≤ l1 → Q μ) ∧ (¬ ((km_i μ 3) ≤ l1) → vp_in l1 10 → ∀ v62, v62 = km_a μ 23 l1.toNatClampNeg → ∀ j, vX12_jams_230 (vX12_jams_256 (vX12_jams_213 Q n) Q) Q j l1 v62 0 μ))
set_option maxRecDepth 100000 in
set_option maxHeartbeats 4000000 in
theorem jcX12_jams_213 {Q Q' Q'' : km_S → Prop} (hQ : ∀ y0, Q y0 → Q' y0 → Q'' y0) : ∀ (n : Nat) (l1 : Int32) (μ : km_S), wX12_jams_213 Q n l1 μ → vX12_jams_213 Q' n l1 μ → wX12_jams_213 Q'' n l1 μ := by
  intro n
  induction n with
  | zero => intro l1 μ h; exact h.elim
  | succ n ih =>
    intro l1 μ h v
    unfold wX12_jams_213 at h
    unfold vX12_jams_213 at v
    unfold wX12_jams_213
    refine ⟨?_, ?_⟩
    · have h := h.1
      have v := v.1
      intro e1
      have h := h e1
      have v := v e1
      exact hQ _ h v
    · have h := h.2
      have v := v.2
      intro e2
      have h := h e2
      have v := v e2
      refine ⟨h.1, ?_⟩
      have v := v h.1
      have h := h.2
      intro v62 e4
      have h := h v62 e4
      have v := v v62 e4
      obtain ⟨j, h⟩ := h
      refine ⟨j, ?_⟩
      have v := v j
      exact jcX12_jams_230 (k256 := wX12_jams_256 (wX12_jams_213 Q n) Q) (k256' := vX12_jams_256 (vX12_jams_213 Q' n) Q') (k256'' := wX12_jams_256 (wX12_jams_213 Q'' n) Q'') (fun _ _ _ h v => jcX12_jams_256 (k213 := wX12_jams_213 Q n) (k213' := vX12_jams_213 Q' n) (k213'' := wX12_jams_213 Q'' n) (fun _ _ h v => ih _ _ h v) hQ _ _ _ h v) hQ _ _ _ _ _ h v
set_option maxRecDepth 100000 in
set_option maxHeartbeats 4000000 in
theorem jaX12_jams_213 {Q Q' : km_S → Prop} (hQ : ∀ y0, Q y0 → Q' y0) : ∀ (n m : Nat) (l1 : Int32) (μ : km_S), wX12_jams_213 Q n l1 μ → vX12_jams_213 Q' m l1 μ := by
  intro n
  induction n with
  | zero => intro m l1 μ h; exact h.elim
  | succ n ih =>
    intro m l1 μ h
    cases m with
    | zero => exact trivial
    | succ m =>
      unfold wX12_jams_213 at h
      unfold vX12_jams_213
      refine ⟨?_, ?_⟩
      · have h := h.1
        intro e1
        have h := h e1
        exact hQ _ h
      · have h := h.2
        intro e2
        have h := h e2
        intro e3
        have h := h.2
        intro v62 e4
        have h := h v62 e4
        obtain ⟨j, h⟩ := h
        intro j9
        exact jaX12_jams_230 (k256 := wX12_jams_256 (wX12_jams_213 Q n) Q) (k256' := vX12_jams_256 (vX12_jams_213 Q' m) Q') (fun _ _ _ h => jaX12_jams_256 (k213 := wX12_jams_213 Q n) (k213' := vX12_jams_213 Q' m) (fun _ _ h => ih m _ _ h) hQ _ _ _ h) hQ _ j9 _ _ _ _ h
set_option maxRecDepth 100000 in
set_option maxHeartbeats 4000000 in
theorem jfX12_jams_213 {I : km_S → Prop} (W : gw_ I [34]) {Q : km_S → Prop} (hQ : ∀ y0, I y0 → Q y0) : ∀ (n : Nat) (l1 : Int32) (μ : km_S), I μ → vX12_jams_213 Q n l1 μ := by
  intro n
  induction n with
  | zero => intro l1 μ i; exact trivial
  | succ n ih =>
    intro l1 μ i
    unfold vX12_jams_213
    refine ⟨?_, ?_⟩
    · intro e1
      exact hQ _ i
    · intro e2
      intro e3
      intro v62 e4
      intro j
      exact jfX12_jams_230 (I := I) (gw_sub W (by decide)) (k256 := vX12_jams_256 (vX12_jams_213 Q n) Q) (fun _ _ _ i => jfX12_jams_256 (I := I) (gw_sub W (by decide)) (k213 := vX12_jams_213 Q n) (fun _ _ i => ih _ _ i) hQ _ _ _ i) hQ _ _ _ _ _ i
def vX12_jams_211 (Q : km_S → Prop) (μ : km_S) : Prop := ∀ j, vX12_jams_213 Q j 0 μ
set_option maxRecDepth 100000 in
set_option maxHeartbeats 4000000 in
theorem jcX12_jams_211 {Q Q' Q'' : km_S → Prop} (hQ : ∀ y0, Q y0 → Q' y0 → Q'' y0) : ∀ (μ : km_S), wX12_jams_211 Q μ → vX12_jams_211 Q' μ → wX12_jams_211 Q'' μ := by
  intro μ h v
  unfold wX12_jams_211 at h
  unfold vX12_jams_211 at v
  unfold wX12_jams_211
  obtain ⟨j, h⟩ := h
  refine ⟨j, ?_⟩
  have v := v j
  exact jcX12_jams_213 hQ _ _ _ h v
set_option maxRecDepth 100000 in
set_option maxHeartbeats 4000000 in
theorem jaX12_jams_211 {Q Q' : km_S → Prop} (hQ : ∀ y0, Q y0 → Q' y0) : ∀ (μ : km_S), wX12_jams_211 Q μ → vX12_jams_211 Q' μ := by
  intro μ h
  unfold wX12_jams_211 at h
  unfold vX12_jams_211
  obtain ⟨j, h⟩ := h
  intro j9
  exact jaX12_jams_213 hQ _ j9 _ _ h
set_option maxRecDepth 100000 in
set_option maxHeartbeats 4000000 in
theorem jfX12_jams_211 {I : km_S → Prop} (W : gw_ I [34]) {Q : km_S → Prop} (hQ : ∀ y0, I y0 → Q y0) : ∀ (μ : km_S), I μ → vX12_jams_211 Q μ := by
  intro μ i
  unfold vX12_jams_211
  intro j
  exact jfX12_jams_213 (I := I) (gw_sub W (by decide)) hQ _ _ _ i

def vX12_isWord_28 (k29 : Nat → Int32 → km_S → Prop) (Q : Int32 → km_S → Prop) (l1 : Nat) (μ : km_S) : Prop := k29 l1 0 μ
set_option maxRecDepth 100000 in
set_option maxHeartbeats 4000000 in
theorem jcX12_isWord_28 {k29 k29' k29'' : Nat → Int32 → km_S → Prop} (hk29 : ∀ y0 y1 y2, k29 y0 y1 y2 → k29' y0 y1 y2 → k29'' y0 y1 y2) {Q Q' Q'' : Int32 → km_S → Prop} (hQ : ∀ y0 y1, Q y0 y1 → Q' y0 y1 → Q'' y0 y1) : ∀ (l1 : Nat) (μ : km_S), wX12_isWord_28 k29 Q l1 μ → vX12_isWord_28 k29' Q' l1 μ → wX12_isWord_28 k29'' Q'' l1 μ := by
  intro l1 μ h v
  unfold wX12_isWord_28 at h
  unfold vX12_isWord_28 at v
  unfold wX12_isWord_28
  exact hk29 _ _ _ h v
set_option maxRecDepth 100000 in
set_option maxHeartbeats 4000000 in
theorem jaX12_isWord_28 {k29 k29' : Nat → Int32 → km_S → Prop} (hk29 : ∀ y0 y1 y2, k29 y0 y1 y2 → k29' y0 y1 y2) {Q Q' : Int32 → km_S → Prop} (hQ : ∀ y0 y1, Q y0 y1 → Q' y0 y1) : ∀ (l1 : Nat) (μ : km_S), wX12_isWord_28 k29 Q l1 μ → vX12_isWord_28 k29' Q' l1 μ := by
  intro l1 μ h
  unfold wX12_isWord_28 at h
  unfold vX12_isWord_28
  exact hk29 _ _ _ h
set_option maxRecDepth 100000 in
set_option maxHeartbeats 4000000 in
theorem jfX12_isWord_28 {I : km_S → Prop} (W : gw_ I []) {k29 : Nat → Int32 → km_S → Prop} (hk29 : ∀ y0 y1 y2, I y2 → k29 y0 y1 y2) {Q : Int32 → km_S → Prop} (hQ : ∀ y0 y1, I y1 → Q y0 y1) : ∀ (l1 : Nat) (μ : km_S), I μ → vX12_isWord_28 k29 Q l1 μ := by
  intro l1 μ i
  unfold vX12_isWord_28
  exact hk29 _ _ _ i
def vX12_isWord_68 (k32 : Nat → Int32 → Int32 → km_S → Prop) (Q : Int32 → km_S → Prop) (l1 : Nat) (l3 : Int32) (s0 : Int32) (μ : km_S) : Prop := ∀ v1 : Int32, v1 = l3 + 1 → k32 l1 s0 v1 μ
set_option maxRecDepth 100000 in
set_option maxHeartbeats 4000000 in
theorem jcX12_isWord_68 {k32 k32' k32'' : Nat → Int32 → Int32 → km_S → Prop} (hk32 : ∀ y0 y1 y2 y3, k32 y0 y1 y2 y3 → k32' y0 y1 y2 y3 → k32'' y0 y1 y2 y3) {Q Q' Q'' : Int32 → km_S → Prop} (hQ : ∀ y0 y1, Q y0 y1 → Q' y0 y1 → Q'' y0 y1) : ∀ (l1 : Nat) (l3 : Int32) (s0 : Int32) (μ : km_S), wX12_isWord_68 k32 Q l1 l3 s0 μ → vX12_isWord_68 k32' Q' l1 l3 s0 μ → wX12_isWord_68 k32'' Q'' l1 l3 s0 μ := by
  intro l1 l3 s0 μ h v
  unfold wX12_isWord_68 at h
  unfold vX12_isWord_68 at v
  unfold wX12_isWord_68
  intro v1 e1
  have h := h v1 e1
  have v := v v1 e1
  exact hk32 _ _ _ _ h v
set_option maxRecDepth 100000 in
set_option maxHeartbeats 4000000 in
theorem jaX12_isWord_68 {k32 k32' : Nat → Int32 → Int32 → km_S → Prop} (hk32 : ∀ y0 y1 y2 y3, k32 y0 y1 y2 y3 → k32' y0 y1 y2 y3) {Q Q' : Int32 → km_S → Prop} (hQ : ∀ y0 y1, Q y0 y1 → Q' y0 y1) : ∀ (l1 : Nat) (l3 : Int32) (s0 : Int32) (μ : km_S), wX12_isWord_68 k32 Q l1 l3 s0 μ → vX12_isWord_68 k32' Q' l1 l3 s0 μ := by
  intro l1 l3 s0 μ h
  unfold wX12_isWord_68 at h
  unfold vX12_isWord_68
  intro v1 e1
  have h := h v1 e1
  exact hk32 _ _ _ _ h
set_option maxRecDepth 100000 in
set_option maxHeartbeats 4000000 in
theorem jfX12_isWord_68 {I : km_S → Prop} (W : gw_ I []) {k32 : Nat → Int32 → Int32 → km_S → Prop} (hk32 : ∀ y0 y1 y2 y3, I y3 → k32 y0 y1 y2 y3) {Q : Int32 → km_S → Prop} (hQ : ∀ y0 y1, I y1 → Q y0 y1) : ∀ (l1 : Nat) (l3 : Int32) (s0 : Int32) (μ : km_S), I μ → vX12_isWord_68 k32 Q l1 l3 s0 μ := by
  intro l1 l3 s0 μ i
  unfold vX12_isWord_68
  intro v1 e1
  exact hk32 _ _ _ _ i
def vX12_isWord_32 (Q : Int32 → km_S → Prop) : Nat → Nat → Int32 → Int32 → km_S → Prop
  | 0, _, _, _, _ => True
  | n + 1, l1, l2, l3, μ => ((l2 = 0 → narrow .boolean (.int l2) = .int l2 → Q l2 μ) ∧ (¬ (l2 = 0) → l1 < 12 → (((nI (ks_len.getD l1 0)) ≤ l3 → narrow .boolean (.int l2) = .int l2 → Q l2 μ) ∧ (¬ ((nI (ks_len.getD l1 0)) ≤ l3) → l1 < 12 → vp_in l3 (ks_len.getD l1 0) → vp_in ((km_i μ 64) + l3) 500 → ((¬ ((ks_byt.getD l1 []).getD l3.toNatClampNeg 0) = (km_a μ 52 ((km_i μ 64) + l3).toNatClampNeg) → vX12_isWord_68 (vX12_isWord_32 Q n) Q l1 l3 0 μ) ∧ (((ks_byt.getD l1 []).getD l3.toNatClampNeg 0) = (km_a μ 52 ((km_i μ 64) + l3).toNatClampNeg) → vX12_isWord_68 (vX12_isWord_32 Q n) Q l1 l3 1 μ))))))
set_option maxRecDepth 100000 in
set_option maxHeartbeats 4000000 in
theorem jcX12_isWord_32 {Q Q' Q'' : Int32 → km_S → Prop} (hQ : ∀ y0 y1, Q y0 y1 → Q' y0 y1 → Q'' y0 y1) : ∀ (n : Nat) (l1 : Nat) (l2 : Int32) (l3 : Int32) (μ : km_S), wX12_isWord_32 Q n l1 l2 l3 μ → vX12_isWord_32 Q' n l1 l2 l3 μ → wX12_isWord_32 Q'' n l1 l2 l3 μ := by
  intro n
  induction n with
  | zero => intro l1 l2 l3 μ h; exact h.elim
  | succ n ih =>
    intro l1 l2 l3 μ h v
    unfold wX12_isWord_32 at h
    unfold vX12_isWord_32 at v
    unfold wX12_isWord_32
    refine ⟨?_, ?_⟩
    · have h := h.1
      have v := v.1
      intro e1
      have h := h e1
      have v := v e1
      refine ⟨h.1, ?_⟩
      have v := v h.1
      have h := h.2
      exact hQ _ _ h v
    · have h := h.2
      have v := v.2
      intro e3
      have h := h e3
      have v := v e3
      refine ⟨h.1, ?_⟩
      have v := v h.1
      have h := h.2
      refine ⟨?_, ?_⟩
      · have h := h.1
        have v := v.1
        intro e5
        have h := h e5
        have v := v e5
        refine ⟨h.1, ?_⟩
        have v := v h.1
        have h := h.2
        exact hQ _ _ h v
      · have h := h.2
        have v := v.2
        intro e7
        have h := h e7
        have v := v e7
        refine ⟨h.1, ?_⟩
        have v := v h.1
        have h := h.2
        refine ⟨h.1, ?_⟩
        have v := v h.1
        have h := h.2
        refine ⟨h.1, ?_⟩
        have v := v h.1
        have h := h.2
        refine ⟨?_, ?_⟩
        · have h := h.1
          have v := v.1
          intro e11
          have h := h e11
          have v := v e11
          exact jcX12_isWord_68 (k32 := wX12_isWord_32 Q n) (k32' := vX12_isWord_32 Q' n) (k32'' := wX12_isWord_32 Q'' n) (fun _ _ _ _ h v => ih _ _ _ _ h v) hQ _ _ _ _ h v
        · have h := h.2
          have v := v.2
          intro e12
          have h := h e12
          have v := v e12
          exact jcX12_isWord_68 (k32 := wX12_isWord_32 Q n) (k32' := vX12_isWord_32 Q' n) (k32'' := wX12_isWord_32 Q'' n) (fun _ _ _ _ h v => ih _ _ _ _ h v) hQ _ _ _ _ h v
set_option maxRecDepth 100000 in
set_option maxHeartbeats 4000000 in
theorem jaX12_isWord_32 {Q Q' : Int32 → km_S → Prop} (hQ : ∀ y0 y1, Q y0 y1 → Q' y0 y1) : ∀ (n m : Nat) (l1 : Nat) (l2 : Int32) (l3 : Int32) (μ : km_S), wX12_isWord_32 Q n l1 l2 l3 μ → vX12_isWord_32 Q' m l1 l2 l3 μ := by
  intro n
  induction n with
  | zero => intro m l1 l2 l3 μ h; exact h.elim
  | succ n ih =>
    intro m l1 l2 l3 μ h
    cases m with
    | zero => exact trivial
    | succ m =>
      unfold wX12_isWord_32 at h
      unfold vX12_isWord_32
      refine ⟨?_, ?_⟩
      · have h := h.1
        intro e1
        have h := h e1
        intro e2
        have h := h.2
        exact hQ _ _ h
      · have h := h.2
        intro e3
        have h := h e3
        intro e4
        have h := h.2
        refine ⟨?_, ?_⟩
        · have h := h.1
          intro e5
          have h := h e5
          intro e6
          have h := h.2
          exact hQ _ _ h
        · have h := h.2
          intro e7
          have h := h e7
          intro e8
          have h := h.2
          intro e9
          have h := h.2
          intro e10
          have h := h.2
          refine ⟨?_, ?_⟩
          · have h := h.1
            intro e11
            have h := h e11
            exact jaX12_isWord_68 (k32 := wX12_isWord_32 Q n) (k32' := vX12_isWord_32 Q' m) (fun _ _ _ _ h => ih m _ _ _ _ h) hQ _ _ _ _ h
          · have h := h.2
            intro e12
            have h := h e12
            exact jaX12_isWord_68 (k32 := wX12_isWord_32 Q n) (k32' := vX12_isWord_32 Q' m) (fun _ _ _ _ h => ih m _ _ _ _ h) hQ _ _ _ _ h
set_option maxRecDepth 100000 in
set_option maxHeartbeats 4000000 in
theorem jfX12_isWord_32 {I : km_S → Prop} (W : gw_ I []) {Q : Int32 → km_S → Prop} (hQ : ∀ y0 y1, I y1 → Q y0 y1) : ∀ (n : Nat) (l1 : Nat) (l2 : Int32) (l3 : Int32) (μ : km_S), I μ → vX12_isWord_32 Q n l1 l2 l3 μ := by
  intro n
  induction n with
  | zero => intro l1 l2 l3 μ i; exact trivial
  | succ n ih =>
    intro l1 l2 l3 μ i
    unfold vX12_isWord_32
    refine ⟨?_, ?_⟩
    · intro e1
      intro e2
      exact hQ _ _ i
    · intro e3
      intro e4
      refine ⟨?_, ?_⟩
      · intro e5
        intro e6
        exact hQ _ _ i
      · intro e7
        intro e8
        intro e9
        intro e10
        refine ⟨?_, ?_⟩
        · intro e11
          exact jfX12_isWord_68 (I := I) (gw_sub W (by decide)) (k32 := vX12_isWord_32 Q n) (fun _ _ _ _ i => ih _ _ _ _ i) hQ _ _ _ _ i
        · intro e12
          exact jfX12_isWord_68 (I := I) (gw_sub W (by decide)) (k32 := vX12_isWord_32 Q n) (fun _ _ _ _ i => ih _ _ _ _ i) hQ _ _ _ _ i
def vX12_isWord_29 (Q : Int32 → km_S → Prop) (l1 : Nat) (s0 : Int32) (μ : km_S) : Prop := ∀ j, vX12_isWord_32 Q j l1 s0 0 μ
set_option maxRecDepth 100000 in
set_option maxHeartbeats 4000000 in
theorem jcX12_isWord_29 {Q Q' Q'' : Int32 → km_S → Prop} (hQ : ∀ y0 y1, Q y0 y1 → Q' y0 y1 → Q'' y0 y1) : ∀ (l1 : Nat) (s0 : Int32) (μ : km_S), wX12_isWord_29 Q l1 s0 μ → vX12_isWord_29 Q' l1 s0 μ → wX12_isWord_29 Q'' l1 s0 μ := by
  intro l1 s0 μ h v
  unfold wX12_isWord_29 at h
  unfold vX12_isWord_29 at v
  unfold wX12_isWord_29
  obtain ⟨j, h⟩ := h
  refine ⟨j, ?_⟩
  have v := v j
  exact jcX12_isWord_32 hQ _ _ _ _ _ h v
set_option maxRecDepth 100000 in
set_option maxHeartbeats 4000000 in
theorem jaX12_isWord_29 {Q Q' : Int32 → km_S → Prop} (hQ : ∀ y0 y1, Q y0 y1 → Q' y0 y1) : ∀ (l1 : Nat) (s0 : Int32) (μ : km_S), wX12_isWord_29 Q l1 s0 μ → vX12_isWord_29 Q' l1 s0 μ := by
  intro l1 s0 μ h
  unfold wX12_isWord_29 at h
  unfold vX12_isWord_29
  obtain ⟨j, h⟩ := h
  intro j9
  exact jaX12_isWord_32 hQ _ j9 _ _ _ _ h
set_option maxRecDepth 100000 in
set_option maxHeartbeats 4000000 in
theorem jfX12_isWord_29 {I : km_S → Prop} (W : gw_ I []) {Q : Int32 → km_S → Prop} (hQ : ∀ y0 y1, I y1 → Q y0 y1) : ∀ (l1 : Nat) (s0 : Int32) (μ : km_S), I μ → vX12_isWord_29 Q l1 s0 μ := by
  intro l1 s0 μ i
  unfold vX12_isWord_29
  intro j
  exact jfX12_isWord_32 (I := I) (gw_sub W (by decide)) hQ _ _ _ _ _ i
def vX12_isWord (l1 : Nat) (μ : km_S) (Q : Int32 → km_S → Prop) : Prop := ((¬ (km_i μ 62) = 1 → vX12_isWord_28 (vX12_isWord_29 Q) Q l1 μ) ∧ ((km_i μ 62) = 1 → l1 < 12 → ((¬ (nI (ks_len.getD l1 0)) = ((km_i μ 65) - (km_i μ 64)) → vX12_isWord_28 (vX12_isWord_29 Q) Q l1 μ) ∧ ((nI (ks_len.getD l1 0)) = ((km_i μ 65) - (km_i μ 64)) → vX12_isWord_29 Q l1 1 μ))))
set_option maxRecDepth 100000 in
set_option maxHeartbeats 4000000 in
theorem jcX12_isWord {Q Q' Q'' : Int32 → km_S → Prop} (hQ : ∀ y0 y1, Q y0 y1 → Q' y0 y1 → Q'' y0 y1) : ∀ (l1 : Nat) (μ : km_S), wX12_isWord l1 μ Q → vX12_isWord l1 μ Q' → wX12_isWord l1 μ Q'' := by
  intro l1 μ h v
  unfold wX12_isWord at h
  unfold vX12_isWord at v
  unfold wX12_isWord
  refine ⟨?_, ?_⟩
  · have h := h.1
    have v := v.1
    intro e1
    have h := h e1
    have v := v e1
    exact jcX12_isWord_28 (k29 := wX12_isWord_29 Q) (k29' := vX12_isWord_29 Q') (k29'' := wX12_isWord_29 Q'') (fun _ _ _ h v => jcX12_isWord_29 hQ _ _ _ h v) hQ _ _ h v
  · have h := h.2
    have v := v.2
    intro e2
    have h := h e2
    have v := v e2
    refine ⟨h.1, ?_⟩
    have v := v h.1
    have h := h.2
    refine ⟨?_, ?_⟩
    · have h := h.1
      have v := v.1
      intro e4
      have h := h e4
      have v := v e4
      exact jcX12_isWord_28 (k29 := wX12_isWord_29 Q) (k29' := vX12_isWord_29 Q') (k29'' := wX12_isWord_29 Q'') (fun _ _ _ h v => jcX12_isWord_29 hQ _ _ _ h v) hQ _ _ h v
    · have h := h.2
      have v := v.2
      intro e5
      have h := h e5
      have v := v e5
      exact jcX12_isWord_29 hQ _ _ _ h v
set_option maxRecDepth 100000 in
set_option maxHeartbeats 4000000 in
theorem jaX12_isWord {Q Q' : Int32 → km_S → Prop} (hQ : ∀ y0 y1, Q y0 y1 → Q' y0 y1) : ∀ (l1 : Nat) (μ : km_S), wX12_isWord l1 μ Q → vX12_isWord l1 μ Q' := by
  intro l1 μ h
  unfold wX12_isWord at h
  unfold vX12_isWord
  refine ⟨?_, ?_⟩
  · have h := h.1
    intro e1
    have h := h e1
    exact jaX12_isWord_28 (k29 := wX12_isWord_29 Q) (k29' := vX12_isWord_29 Q') (fun _ _ _ h => jaX12_isWord_29 hQ _ _ _ h) hQ _ _ h
  · have h := h.2
    intro e2
    have h := h e2
    intro e3
    have h := h.2
    refine ⟨?_, ?_⟩
    · have h := h.1
      intro e4
      have h := h e4
      exact jaX12_isWord_28 (k29 := wX12_isWord_29 Q) (k29' := vX12_isWord_29 Q') (fun _ _ _ h => jaX12_isWord_29 hQ _ _ _ h) hQ _ _ h
    · have h := h.2
      intro e5
      have h := h e5
      exact jaX12_isWord_29 hQ _ _ _ h
set_option maxRecDepth 100000 in
set_option maxHeartbeats 4000000 in
theorem jfX12_isWord {I : km_S → Prop} (W : gw_ I []) {Q : Int32 → km_S → Prop} (hQ : ∀ y0 y1, I y1 → Q y0 y1) : ∀ (l1 : Nat) (μ : km_S), I μ → vX12_isWord l1 μ Q := by
  intro l1 μ i
  unfold vX12_isWord
  refine ⟨?_, ?_⟩
  · intro e1
    exact jfX12_isWord_28 (I := I) (gw_sub W (by decide)) (k29 := vX12_isWord_29 Q) (fun _ _ _ i => jfX12_isWord_29 (I := I) (gw_sub W (by decide)) hQ _ _ _ i) hQ _ _ i
  · intro e2
    intro e3
    refine ⟨?_, ?_⟩
    · intro e4
      exact jfX12_isWord_28 (I := I) (gw_sub W (by decide)) (k29 := vX12_isWord_29 Q) (fun _ _ _ i => jfX12_isWord_29 (I := I) (gw_sub W (by decide)) hQ _ _ _ i) hQ _ _ i
    · intro e5
      exact jfX12_isWord_29 (I := I) (gw_sub W (by decide)) hQ _ _ _ i
def vX12_readPart_124 (re : Int32 → km_S → (km_S → Prop) → Prop) (k103 : Int32 → Int32 → km_S → Prop) (Q : km_S → Prop) (l2 : Int32) (l3 : Int32) (μ : km_S) : Prop := ∀ v1 : Int32, v1 = l3 + 1 → k103 l2 v1 μ
set_option maxRecDepth 100000 in
set_option maxHeartbeats 4000000 in
theorem jcX12_readPart_124 {re re' : Int32 → km_S → (km_S → Prop) → Prop} (hre : ∀ {P P' P'' : km_S → Prop}, (∀ y0, P y0 → P' y0 → P'' y0) → ∀ (x0 : Int32) (x1 : km_S), re x0 x1 P → re' x0 x1 P' → re x0 x1 P'') {k103 k103' k103'' : Int32 → Int32 → km_S → Prop} (hk103 : ∀ y0 y1 y2, k103 y0 y1 y2 → k103' y0 y1 y2 → k103'' y0 y1 y2) {Q Q' Q'' : km_S → Prop} (hQ : ∀ y0, Q y0 → Q' y0 → Q'' y0) : ∀ (l2 : Int32) (l3 : Int32) (μ : km_S), wX12_readPart_124 re k103 Q l2 l3 μ → vX12_readPart_124 re' k103' Q' l2 l3 μ → wX12_readPart_124 re k103'' Q'' l2 l3 μ := by
  intro l2 l3 μ h v
  unfold wX12_readPart_124 at h
  unfold vX12_readPart_124 at v
  unfold wX12_readPart_124
  intro v1 e1
  have h := h v1 e1
  have v := v v1 e1
  exact hk103 _ _ _ h v
set_option maxRecDepth 100000 in
set_option maxHeartbeats 4000000 in
theorem jaX12_readPart_124 {re re' : Int32 → km_S → (km_S → Prop) → Prop} (hre : ∀ {P P' : km_S → Prop}, (∀ y0, P y0 → P' y0) → ∀ (x0 : Int32) (x1 : km_S), re x0 x1 P → re' x0 x1 P') {k103 k103' : Int32 → Int32 → km_S → Prop} (hk103 : ∀ y0 y1 y2, k103 y0 y1 y2 → k103' y0 y1 y2) {Q Q' : km_S → Prop} (hQ : ∀ y0, Q y0 → Q' y0) : ∀ (l2 : Int32) (l3 : Int32) (μ : km_S), wX12_readPart_124 re k103 Q l2 l3 μ → vX12_readPart_124 re' k103' Q' l2 l3 μ := by
  intro l2 l3 μ h
  unfold wX12_readPart_124 at h
  unfold vX12_readPart_124
  intro v1 e1
  have h := h v1 e1
  exact hk103 _ _ _ h
set_option maxRecDepth 100000 in
set_option maxHeartbeats 4000000 in
theorem jfX12_readPart_124 {I : km_S → Prop} (W : gw_ I [56, 59, 60, 62, 63, 64, 65, 66, 67]) {re : Int32 → km_S → (km_S → Prop) → Prop} (hre : ∀ {P : km_S → Prop}, (∀ y0, I y0 → P y0) → ∀ (x0 : Int32) (x1 : km_S), I x1 → re x0 x1 P) {k103 : Int32 → Int32 → km_S → Prop} (hk103 : ∀ y0 y1 y2, I y2 → k103 y0 y1 y2) {Q : km_S → Prop} (hQ : ∀ y0, I y0 → Q y0) : ∀ (l2 : Int32) (l3 : Int32) (μ : km_S), I μ → vX12_readPart_124 re k103 Q l2 l3 μ := by
  intro l2 l3 μ i
  unfold vX12_readPart_124
  intro v1 e1
  exact hk103 _ _ _ i
def vX12_readPart_200 (re : Int32 → km_S → (km_S → Prop) → Prop) (Q : km_S → Prop) (μ : km_S) : Prop := ((¬ (km_i μ 66) = 0 → Q μ) ∧ ((km_i μ 66) = 0 → vX12_step μ (fun μ3 => Q μ3)))
set_option maxRecDepth 100000 in
set_option maxHeartbeats 4000000 in
theorem jcX12_readPart_200 {re re' : Int32 → km_S → (km_S → Prop) → Prop} (hre : ∀ {P P' P'' : km_S → Prop}, (∀ y0, P y0 → P' y0 → P'' y0) → ∀ (x0 : Int32) (x1 : km_S), re x0 x1 P → re' x0 x1 P' → re x0 x1 P'') {Q Q' Q'' : km_S → Prop} (hQ : ∀ y0, Q y0 → Q' y0 → Q'' y0) : ∀ (μ : km_S), wX12_readPart_200 re Q μ → vX12_readPart_200 re' Q' μ → wX12_readPart_200 re Q'' μ := by
  intro μ h v
  unfold wX12_readPart_200 at h
  unfold vX12_readPart_200 at v
  unfold wX12_readPart_200
  refine ⟨?_, ?_⟩
  · have h := h.1
    have v := v.1
    intro e1
    have h := h e1
    have v := v e1
    exact hQ _ h v
  · have h := h.2
    have v := v.2
    intro e2
    have h := h e2
    have v := v e2
    refine jcX12_step ?_ _ h v
    intro μ3 h v
    exact hQ _ h v
set_option maxRecDepth 100000 in
set_option maxHeartbeats 4000000 in
theorem jaX12_readPart_200 {re re' : Int32 → km_S → (km_S → Prop) → Prop} (hre : ∀ {P P' : km_S → Prop}, (∀ y0, P y0 → P' y0) → ∀ (x0 : Int32) (x1 : km_S), re x0 x1 P → re' x0 x1 P') {Q Q' : km_S → Prop} (hQ : ∀ y0, Q y0 → Q' y0) : ∀ (μ : km_S), wX12_readPart_200 re Q μ → vX12_readPart_200 re' Q' μ := by
  intro μ h
  unfold wX12_readPart_200 at h
  unfold vX12_readPart_200
  refine ⟨?_, ?_⟩
  · have h := h.1
    intro e1
    have h := h e1
    exact hQ _ h
  · have h := h.2
    intro e2
    have h := h e2
    refine jaX12_step ?_ _ h
    intro μ3 h
    exact hQ _ h
set_option maxRecDepth 100000 in
set_option maxHeartbeats 4000000 in
theorem jfX12_readPart_200 {I : km_S → Prop} (W : gw_ I [56, 59, 60, 62, 63, 64, 65, 66, 67]) {re : Int32 → km_S → (km_S → Prop) → Prop} (hre : ∀ {P : km_S → Prop}, (∀ y0, I y0 → P y0) → ∀ (x0 : Int32) (x1 : km_S), I x1 → re x0 x1 P) {Q : km_S → Prop} (hQ : ∀ y0, I y0 → Q y0) : ∀ (μ : km_S), I μ → vX12_readPart_200 re Q μ := by
  intro μ i
  unfold vX12_readPart_200
  refine ⟨?_, ?_⟩
  · intro e1
    exact hQ _ i
  · intro e2
    refine jfX12_step (I := I) (gw_sub W (by decide)) ?_ _ i
    intro μ3 iμ3
    exact hQ _ iμ3
def vX12_readPart_140 (re : Int32 → km_S → (km_S → Prop) → Prop) (k200 : km_S → Prop) (Q : km_S → Prop) (l2 : Int32) (μ : km_S) : Prop := vX12_emit (20 + l2) μ (fun μ4 => k200 μ4)
set_option maxRecDepth 100000 in
set_option maxHeartbeats 4000000 in
theorem jcX12_readPart_140 {re re' : Int32 → km_S → (km_S → Prop) → Prop} (hre : ∀ {P P' P'' : km_S → Prop}, (∀ y0, P y0 → P' y0 → P'' y0) → ∀ (x0 : Int32) (x1 : km_S), re x0 x1 P → re' x0 x1 P' → re x0 x1 P'') {k200 k200' k200'' : km_S → Prop} (hk200 : ∀ y0, k200 y0 → k200' y0 → k200'' y0) {Q Q' Q'' : km_S → Prop} (hQ : ∀ y0, Q y0 → Q' y0 → Q'' y0) : ∀ (l2 : Int32) (μ : km_S), wX12_readPart_140 re k200 Q l2 μ → vX12_readPart_140 re' k200' Q' l2 μ → wX12_readPart_140 re k200'' Q'' l2 μ := by
  intro l2 μ h v
  unfold wX12_readPart_140 at h
  unfold vX12_readPart_140 at v
  unfold wX12_readPart_140
  refine jcX12_emit ?_ _ _ h v
  intro μ4 h v
  exact hk200 _ h v
set_option maxRecDepth 100000 in
set_option maxHeartbeats 4000000 in
theorem jaX12_readPart_140 {re re' : Int32 → km_S → (km_S → Prop) → Prop} (hre : ∀ {P P' : km_S → Prop}, (∀ y0, P y0 → P' y0) → ∀ (x0 : Int32) (x1 : km_S), re x0 x1 P → re' x0 x1 P') {k200 k200' : km_S → Prop} (hk200 : ∀ y0, k200 y0 → k200' y0) {Q Q' : km_S → Prop} (hQ : ∀ y0, Q y0 → Q' y0) : ∀ (l2 : Int32) (μ : km_S), wX12_readPart_140 re k200 Q l2 μ → vX12_readPart_140 re' k200' Q' l2 μ := by
  intro l2 μ h
  unfold wX12_readPart_140 at h
  unfold vX12_readPart_140
  refine jaX12_emit ?_ _ _ h
  intro μ4 h
  exact hk200 _ h
set_option maxRecDepth 100000 in
set_option maxHeartbeats 4000000 in
theorem jfX12_readPart_140 {I : km_S → Prop} (W : gw_ I [56, 59, 60, 62, 63, 64, 65, 66, 67]) {re : Int32 → km_S → (km_S → Prop) → Prop} (hre : ∀ {P : km_S → Prop}, (∀ y0, I y0 → P y0) → ∀ (x0 : Int32) (x1 : km_S), I x1 → re x0 x1 P) {k200 : km_S → Prop} (hk200 : ∀ y0, I y0 → k200 y0) {Q : km_S → Prop} (hQ : ∀ y0, I y0 → Q y0) : ∀ (l2 : Int32) (μ : km_S), I μ → vX12_readPart_140 re k200 Q l2 μ := by
  intro l2 μ i
  unfold vX12_readPart_140
  refine jfX12_emit (I := I) (gw_sub W (by decide)) ?_ _ _ i
  intro μ4 iμ4
  exact hk200 _ iμ4
def vX12_readPart_78 (re : Int32 → km_S → (km_S → Prop) → Prop) (k200 : km_S → Prop) (Q : km_S → Prop) (l2 : Int32) (μ : km_S) : Prop := vX12_emit 0 μ (fun μ5 => vX12_emit l2 μ5 (fun μ6 => k200 μ6))
set_option maxRecDepth 100000 in
set_option maxHeartbeats 4000000 in
theorem jcX12_readPart_78 {re re' : Int32 → km_S → (km_S → Prop) → Prop} (hre : ∀ {P P' P'' : km_S → Prop}, (∀ y0, P y0 → P' y0 → P'' y0) → ∀ (x0 : Int32) (x1 : km_S), re x0 x1 P → re' x0 x1 P' → re x0 x1 P'') {k200 k200' k200'' : km_S → Prop} (hk200 : ∀ y0, k200 y0 → k200' y0 → k200'' y0) {Q Q' Q'' : km_S → Prop} (hQ : ∀ y0, Q y0 → Q' y0 → Q'' y0) : ∀ (l2 : Int32) (μ : km_S), wX12_readPart_78 re k200 Q l2 μ → vX12_readPart_78 re' k200' Q' l2 μ → wX12_readPart_78 re k200'' Q'' l2 μ := by
  intro l2 μ h v
  unfold wX12_readPart_78 at h
  unfold vX12_readPart_78 at v
  unfold wX12_readPart_78
  refine jcX12_emit ?_ _ _ h v
  intro μ5 h v
  refine jcX12_emit ?_ _ _ h v
  intro μ6 h v
  exact hk200 _ h v
set_option maxRecDepth 100000 in
set_option maxHeartbeats 4000000 in
theorem jaX12_readPart_78 {re re' : Int32 → km_S → (km_S → Prop) → Prop} (hre : ∀ {P P' : km_S → Prop}, (∀ y0, P y0 → P' y0) → ∀ (x0 : Int32) (x1 : km_S), re x0 x1 P → re' x0 x1 P') {k200 k200' : km_S → Prop} (hk200 : ∀ y0, k200 y0 → k200' y0) {Q Q' : km_S → Prop} (hQ : ∀ y0, Q y0 → Q' y0) : ∀ (l2 : Int32) (μ : km_S), wX12_readPart_78 re k200 Q l2 μ → vX12_readPart_78 re' k200' Q' l2 μ := by
  intro l2 μ h
  unfold wX12_readPart_78 at h
  unfold vX12_readPart_78
  refine jaX12_emit ?_ _ _ h
  intro μ5 h
  refine jaX12_emit ?_ _ _ h
  intro μ6 h
  exact hk200 _ h
set_option maxRecDepth 100000 in
set_option maxHeartbeats 4000000 in
theorem jfX12_readPart_78 {I : km_S → Prop} (W : gw_ I [56, 59, 60, 62, 63, 64, 65, 66, 67]) {re : Int32 → km_S → (km_S → Prop) → Prop} (hre : ∀ {P : km_S → Prop}, (∀ y0, I y0 → P y0) → ∀ (x0 : Int32) (x1 : km_S), I x1 → re x0 x1 P) {k200 : km_S → Prop} (hk200 : ∀ y0, I y0 → k200 y0) {Q : km_S → Prop} (hQ : ∀ y0, I y0 → Q y0) : ∀ (l2 : Int32) (μ : km_S), I μ → vX12_readPart_78 re k200 Q l2 μ := by
  intro l2 μ i
  unfold vX12_readPart_78
  refine jfX12_emit (I := I) (gw_sub W (by decide)) ?_ _ _ i
  intro μ5 iμ5
  refine jfX12_emit (I := I) (gw_sub W (by decide)) ?_ _ _ iμ5
  intro μ6 iμ6
  exact hk200 _ iμ6
def vX12_readPart_130 (re : Int32 → km_S → (km_S → Prop) → Prop) (k200 : km_S → Prop) (Q : km_S → Prop) (l2 : Int32) (μ : km_S) : Prop := ((¬ l2 = (-1) → vX12_readPart_140 re k200 Q l2 μ) ∧ (l2 = (-1) → vX12_wrong 3 μ (fun μ8 => vX12_readPart_140 re k200 Q l2 μ8)))
set_option maxRecDepth 100000 in
set_option maxHeartbeats 4000000 in
theorem jcX12_readPart_130 {re re' : Int32 → km_S → (km_S → Prop) → Prop} (hre : ∀ {P P' P'' : km_S → Prop}, (∀ y0, P y0 → P' y0 → P'' y0) → ∀ (x0 : Int32) (x1 : km_S), re x0 x1 P → re' x0 x1 P' → re x0 x1 P'') {k200 k200' k200'' : km_S → Prop} (hk200 : ∀ y0, k200 y0 → k200' y0 → k200'' y0) {Q Q' Q'' : km_S → Prop} (hQ : ∀ y0, Q y0 → Q' y0 → Q'' y0) : ∀ (l2 : Int32) (μ : km_S), wX12_readPart_130 re k200 Q l2 μ → vX12_readPart_130 re' k200' Q' l2 μ → wX12_readPart_130 re k200'' Q'' l2 μ := by
  intro l2 μ h v
  unfold wX12_readPart_130 at h
  unfold vX12_readPart_130 at v
  unfold wX12_readPart_130
  refine ⟨?_, ?_⟩
  · have h := h.1
    have v := v.1
    intro e1
    have h := h e1
    have v := v e1
    exact jcX12_readPart_140 hre hk200 hQ _ _ h v
  · have h := h.2
    have v := v.2
    intro e2
    have h := h e2
    have v := v e2
    refine jcX12_wrong ?_ _ _ h v
    intro μ8 h v
    exact jcX12_readPart_140 hre hk200 hQ _ _ h v
set_option maxRecDepth 100000 in
set_option maxHeartbeats 4000000 in
theorem jaX12_readPart_130 {re re' : Int32 → km_S → (km_S → Prop) → Prop} (hre : ∀ {P P' : km_S → Prop}, (∀ y0, P y0 → P' y0) → ∀ (x0 : Int32) (x1 : km_S), re x0 x1 P → re' x0 x1 P') {k200 k200' : km_S → Prop} (hk200 : ∀ y0, k200 y0 → k200' y0) {Q Q' : km_S → Prop} (hQ : ∀ y0, Q y0 → Q' y0) : ∀ (l2 : Int32) (μ : km_S), wX12_readPart_130 re k200 Q l2 μ → vX12_readPart_130 re' k200' Q' l2 μ := by
  intro l2 μ h
  unfold wX12_readPart_130 at h
  unfold vX12_readPart_130
  refine ⟨?_, ?_⟩
  · have h := h.1
    intro e1
    have h := h e1
    exact jaX12_readPart_140 hre hk200 hQ _ _ h
  · have h := h.2
    intro e2
    have h := h e2
    refine jaX12_wrong ?_ _ _ h
    intro μ8 h
    exact jaX12_readPart_140 hre hk200 hQ _ _ h
set_option maxRecDepth 100000 in
set_option maxHeartbeats 4000000 in
theorem jfX12_readPart_130 {I : km_S → Prop} (W : gw_ I [56, 59, 60, 62, 63, 64, 65, 66, 67]) {re : Int32 → km_S → (km_S → Prop) → Prop} (hre : ∀ {P : km_S → Prop}, (∀ y0, I y0 → P y0) → ∀ (x0 : Int32) (x1 : km_S), I x1 → re x0 x1 P) {k200 : km_S → Prop} (hk200 : ∀ y0, I y0 → k200 y0) {Q : km_S → Prop} (hQ : ∀ y0, I y0 → Q y0) : ∀ (l2 : Int32) (μ : km_S), I μ → vX12_readPart_130 re k200 Q l2 μ := by
  intro l2 μ i
  unfold vX12_readPart_130
  refine ⟨?_, ?_⟩
  · intro e1
    exact jfX12_readPart_140 (I := I) (gw_sub W (by decide)) hre hk200 hQ _ _ i
  · intro e2
    refine jfX12_wrong (I := I) (gw_sub W (by decide)) ?_ _ _ i
    intro μ8 iμ8
    exact jfX12_readPart_140 (I := I) (gw_sub W (by decide)) hre hk200 hQ _ _ iμ8
def vX12_readPart_103 (re : Int32 → km_S → (km_S → Prop) → Prop) (k130 : Int32 → km_S → Prop) (Q : km_S → Prop) : Nat → Int32 → Int32 → km_S → Prop
  | 0, _, _, _ => True
  | n + 1, l2, l3, μ => ((7 ≤ l3 → k130 l2 μ) ∧ (¬ (7 ≤ l3) → vp_in l3 7 → vX12_isWord l3.toNatClampNeg μ (fun r12 μ11 => ((r12 = 0 → vX12_readPart_124 re (vX12_readPart_103 re k130 Q n) Q l2 l3 μ11) ∧ (¬ (r12 = 0) → vX12_readPart_124 re (vX12_readPart_103 re k130 Q n) Q l3 l3 μ11)))))
set_option maxRecDepth 100000 in
set_option maxHeartbeats 4000000 in
theorem jcX12_readPart_103 {re re' : Int32 → km_S → (km_S → Prop) → Prop} (hre : ∀ {P P' P'' : km_S → Prop}, (∀ y0, P y0 → P' y0 → P'' y0) → ∀ (x0 : Int32) (x1 : km_S), re x0 x1 P → re' x0 x1 P' → re x0 x1 P'') {k130 k130' k130'' : Int32 → km_S → Prop} (hk130 : ∀ y0 y1, k130 y0 y1 → k130' y0 y1 → k130'' y0 y1) {Q Q' Q'' : km_S → Prop} (hQ : ∀ y0, Q y0 → Q' y0 → Q'' y0) : ∀ (n : Nat) (l2 : Int32) (l3 : Int32) (μ : km_S), wX12_readPart_103 re k130 Q n l2 l3 μ → vX12_readPart_103 re' k130' Q' n l2 l3 μ → wX12_readPart_103 re k130'' Q'' n l2 l3 μ := by
  intro n
  induction n with
  | zero => intro l2 l3 μ h; exact h.elim
  | succ n ih =>
    intro l2 l3 μ h v
    unfold wX12_readPart_103 at h
    unfold vX12_readPart_103 at v
    unfold wX12_readPart_103
    refine ⟨?_, ?_⟩
    · have h := h.1
      have v := v.1
      intro e1
      have h := h e1
      have v := v e1
      exact hk130 _ _ h v
    · have h := h.2
      have v := v.2
      intro e2
      have h := h e2
      have v := v e2
      refine ⟨h.1, ?_⟩
      have v := v h.1
      have h := h.2
      refine jcX12_isWord ?_ _ _ h v
      intro r12 μ11 h v
      refine ⟨?_, ?_⟩
      · have h := h.1
        have v := v.1
        intro e4
        have h := h e4
        have v := v e4
        exact jcX12_readPart_124 hre (k103 := wX12_readPart_103 re k130 Q n) (k103' := vX12_readPart_103 re' k130' Q' n) (k103'' := wX12_readPart_103 re k130'' Q'' n) (fun _ _ _ h v => ih _ _ _ h v) hQ _ _ _ h v
      · have h := h.2
        have v := v.2
        intro e5
        have h := h e5
        have v := v e5
        exact jcX12_readPart_124 hre (k103 := wX12_readPart_103 re k130 Q n) (k103' := vX12_readPart_103 re' k130' Q' n) (k103'' := wX12_readPart_103 re k130'' Q'' n) (fun _ _ _ h v => ih _ _ _ h v) hQ _ _ _ h v
set_option maxRecDepth 100000 in
set_option maxHeartbeats 4000000 in
theorem jaX12_readPart_103 {re re' : Int32 → km_S → (km_S → Prop) → Prop} (hre : ∀ {P P' : km_S → Prop}, (∀ y0, P y0 → P' y0) → ∀ (x0 : Int32) (x1 : km_S), re x0 x1 P → re' x0 x1 P') {k130 k130' : Int32 → km_S → Prop} (hk130 : ∀ y0 y1, k130 y0 y1 → k130' y0 y1) {Q Q' : km_S → Prop} (hQ : ∀ y0, Q y0 → Q' y0) : ∀ (n m : Nat) (l2 : Int32) (l3 : Int32) (μ : km_S), wX12_readPart_103 re k130 Q n l2 l3 μ → vX12_readPart_103 re' k130' Q' m l2 l3 μ := by
  intro n
  induction n with
  | zero => intro m l2 l3 μ h; exact h.elim
  | succ n ih =>
    intro m l2 l3 μ h
    cases m with
    | zero => exact trivial
    | succ m =>
      unfold wX12_readPart_103 at h
      unfold vX12_readPart_103
      refine ⟨?_, ?_⟩
      · have h := h.1
        intro e1
        have h := h e1
        exact hk130 _ _ h
      · have h := h.2
        intro e2
        have h := h e2
        intro e3
        have h := h.2
        refine jaX12_isWord ?_ _ _ h
        intro r12 μ11 h
        refine ⟨?_, ?_⟩
        · have h := h.1
          intro e4
          have h := h e4
          exact jaX12_readPart_124 hre (k103 := wX12_readPart_103 re k130 Q n) (k103' := vX12_readPart_103 re' k130' Q' m) (fun _ _ _ h => ih m _ _ _ h) hQ _ _ _ h
        · have h := h.2
          intro e5
          have h := h e5
          exact jaX12_readPart_124 hre (k103 := wX12_readPart_103 re k130 Q n) (k103' := vX12_readPart_103 re' k130' Q' m) (fun _ _ _ h => ih m _ _ _ h) hQ _ _ _ h
set_option maxRecDepth 100000 in
set_option maxHeartbeats 4000000 in
theorem jfX12_readPart_103 {I : km_S → Prop} (W : gw_ I [56, 59, 60, 62, 63, 64, 65, 66, 67]) {re : Int32 → km_S → (km_S → Prop) → Prop} (hre : ∀ {P : km_S → Prop}, (∀ y0, I y0 → P y0) → ∀ (x0 : Int32) (x1 : km_S), I x1 → re x0 x1 P) {k130 : Int32 → km_S → Prop} (hk130 : ∀ y0 y1, I y1 → k130 y0 y1) {Q : km_S → Prop} (hQ : ∀ y0, I y0 → Q y0) : ∀ (n : Nat) (l2 : Int32) (l3 : Int32) (μ : km_S), I μ → vX12_readPart_103 re k130 Q n l2 l3 μ := by
  intro n
  induction n with
  | zero => intro l2 l3 μ i; exact trivial
  | succ n ih =>
    intro l2 l3 μ i
    unfold vX12_readPart_103
    refine ⟨?_, ?_⟩
    · intro e1
      exact hk130 _ _ i
    · intro e2
      intro e3
      refine jfX12_isWord (I := I) (gw_sub W (by decide)) ?_ _ _ i
      intro r12 μ11 iμ11
      refine ⟨?_, ?_⟩
      · intro e4
        exact jfX12_readPart_124 (I := I) (gw_sub W (by decide)) hre (k103 := vX12_readPart_103 re k130 Q n) (fun _ _ _ i => ih _ _ _ i) hQ _ _ _ iμ11
      · intro e5
        exact jfX12_readPart_124 (I := I) (gw_sub W (by decide)) hre (k103 := vX12_readPart_103 re k130 Q n) (fun _ _ _ i => ih _ _ _ i) hQ _ _ _ iμ11
def vX12_readPart_42 (re : Int32 → km_S → (km_S → Prop) → Prop) (k78 : Int32 → km_S → Prop) (Q : km_S → Prop) : Nat → Int32 → Int32 → km_S → Prop
  | 0, _, _, _ => True
  | n + 1, l2, l3, μ => (((km_i μ 65) ≤ l3 → k78 l2 μ) ∧ (¬ ((km_i μ 65) ≤ l3) → ((¬ (km_i μ 66) = 0 → k78 l2 μ) ∧ ((km_i μ 66) = 0 → vp_in l3 500 → ∀ v17, v17 = ((10 * l2) + (km_a μ 52 l3.toNatClampNeg)) - 48 → ∀ v18 : Int32, v18 = l3 + 1 → vX12_readPart_42 re k78 Q n v17 v18 μ))))
set_option maxRecDepth 100000 in
set_option maxHeartbeats 4000000 in
theorem jcX12_readPart_42 {re re' : Int32 → km_S → (km_S → Prop) → Prop} (hre : ∀ {P P' P'' : km_S → Prop}, (∀ y0, P y0 → P' y0 → P'' y0) → ∀ (x0 : Int32) (x1 : km_S), re x0 x1 P → re' x0 x1 P' → re x0 x1 P'') {k78 k78' k78'' : Int32 → km_S → Prop} (hk78 : ∀ y0 y1, k78 y0 y1 → k78' y0 y1 → k78'' y0 y1) {Q Q' Q'' : km_S → Prop} (hQ : ∀ y0, Q y0 → Q' y0 → Q'' y0) : ∀ (n : Nat) (l2 : Int32) (l3 : Int32) (μ : km_S), wX12_readPart_42 re k78 Q n l2 l3 μ → vX12_readPart_42 re' k78' Q' n l2 l3 μ → wX12_readPart_42 re k78'' Q'' n l2 l3 μ := by
  intro n
  induction n with
  | zero => intro l2 l3 μ h; exact h.elim
  | succ n ih =>
    intro l2 l3 μ h v
    unfold wX12_readPart_42 at h
    unfold vX12_readPart_42 at v
    unfold wX12_readPart_42
    refine ⟨?_, ?_⟩
    · have h := h.1
      have v := v.1
      intro e1
      have h := h e1
      have v := v e1
      exact hk78 _ _ h v
    · have h := h.2
      have v := v.2
      intro e2
      have h := h e2
      have v := v e2
      refine ⟨?_, ?_⟩
      · have h := h.1
        have v := v.1
        intro e3
        have h := h e3
        have v := v e3
        exact hk78 _ _ h v
      · have h := h.2
        have v := v.2
        intro e4
        have h := h e4
        have v := v e4
        refine ⟨h.1, ?_⟩
        have v := v h.1
        have h := h.2
        intro v17 e6
        have h := h v17 e6
        have v := v v17 e6
        intro v18 e7
        have h := h v18 e7
        have v := v v18 e7
        exact ih _ _ _ h v
set_option maxRecDepth 100000 in
set_option maxHeartbeats 4000000 in
theorem jaX12_readPart_42 {re re' : Int32 → km_S → (km_S → Prop) → Prop} (hre : ∀ {P P' : km_S → Prop}, (∀ y0, P y0 → P' y0) → ∀ (x0 : Int32) (x1 : km_S), re x0 x1 P → re' x0 x1 P') {k78 k78' : Int32 → km_S → Prop} (hk78 : ∀ y0 y1, k78 y0 y1 → k78' y0 y1) {Q Q' : km_S → Prop} (hQ : ∀ y0, Q y0 → Q' y0) : ∀ (n m : Nat) (l2 : Int32) (l3 : Int32) (μ : km_S), wX12_readPart_42 re k78 Q n l2 l3 μ → vX12_readPart_42 re' k78' Q' m l2 l3 μ := by
  intro n
  induction n with
  | zero => intro m l2 l3 μ h; exact h.elim
  | succ n ih =>
    intro m l2 l3 μ h
    cases m with
    | zero => exact trivial
    | succ m =>
      unfold wX12_readPart_42 at h
      unfold vX12_readPart_42
      refine ⟨?_, ?_⟩
      · have h := h.1
        intro e1
        have h := h e1
        exact hk78 _ _ h
      · have h := h.2
        intro e2
        have h := h e2
        refine ⟨?_, ?_⟩
        · have h := h.1
          intro e3
          have h := h e3
          exact hk78 _ _ h
        · have h := h.2
          intro e4
          have h := h e4
          intro e5
          have h := h.2
          intro v17 e6
          have h := h v17 e6
          intro v18 e7
          have h := h v18 e7
          exact ih m _ _ _ h
set_option maxRecDepth 100000 in
set_option maxHeartbeats 4000000 in
theorem jfX12_readPart_42 {I : km_S → Prop} (W : gw_ I [56, 59, 60, 62, 63, 64, 65, 66, 67]) {re : Int32 → km_S → (km_S → Prop) → Prop} (hre : ∀ {P : km_S → Prop}, (∀ y0, I y0 → P y0) → ∀ (x0 : Int32) (x1 : km_S), I x1 → re x0 x1 P) {k78 : Int32 → km_S → Prop} (hk78 : ∀ y0 y1, I y1 → k78 y0 y1) {Q : km_S → Prop} (hQ : ∀ y0, I y0 → Q y0) : ∀ (n : Nat) (l2 : Int32) (l3 : Int32) (μ : km_S), I μ → vX12_readPart_42 re k78 Q n l2 l3 μ := by
  intro n
  induction n with
  | zero => intro l2 l3 μ i; exact trivial
  | succ n ih =>
    intro l2 l3 μ i
    unfold vX12_readPart_42
    refine ⟨?_, ?_⟩
    · intro e1
      exact hk78 _ _ i
    · intro e2
      refine ⟨?_, ?_⟩
      · intro e3
        exact hk78 _ _ i
      · intro e4
        intro e5
        intro v17 e6
        intro v18 e7
        exact ih _ _ _ i

def vX6_init (l0 : Nat) (l1 : Int32) (l2 : Int32) (l3 : Int32) (l4 : Int32) (σ : kx_S) (Q : kx_S → Prop) : Prop := xt σ l0 = 8 → ∀ σ2, σ2 = xsi σ 128 l0 l1 → ∀ σ4, σ4 = xsi σ2 129 l0 l2 → ∀ σ6, σ6 = xsi σ4 130 l0 l3 → ∀ σ8, σ8 = xsi σ6 131 l0 l4 → ∀ σ10, σ10 = xsi σ8 132 l0 0 → ∀ σ12, σ12 = xsi σ10 133 l0 (-1) → ∀ σ14, σ14 = xsi σ12 134 l0 (-1) → ∀ σ16, σ16 = xsi σ14 136 l0 (-1) → Q σ16
set_option maxRecDepth 100000 in
set_option maxHeartbeats 4000000 in
theorem jcX6_init {Q Q' Q'' : kx_S → Prop} (hQ : ∀ y0, Q y0 → Q' y0 → Q'' y0) : ∀ (l0 : Nat) (l1 : Int32) (l2 : Int32) (l3 : Int32) (l4 : Int32) (σ : kx_S), wX6_init l0 l1 l2 l3 l4 σ Q → vX6_init l0 l1 l2 l3 l4 σ Q' → wX6_init l0 l1 l2 l3 l4 σ Q'' := by
  intro l0 l1 l2 l3 l4 σ h v
  unfold wX6_init at h
  unfold vX6_init at v
  unfold wX6_init
  refine ⟨h.1, ?_⟩
  have v := v h.1
  have h := h.2
  intro σ2 e2
  have h := h σ2 e2
  have v := v σ2 e2
  intro σ4 e3
  have h := h σ4 e3
  have v := v σ4 e3
  intro σ6 e4
  have h := h σ6 e4
  have v := v σ6 e4
  intro σ8 e5
  have h := h σ8 e5
  have v := v σ8 e5
  intro σ10 e6
  have h := h σ10 e6
  have v := v σ10 e6
  intro σ12 e7
  have h := h σ12 e7
  have v := v σ12 e7
  intro σ14 e8
  have h := h σ14 e8
  have v := v σ14 e8
  intro σ16 e9
  have h := h σ16 e9
  have v := v σ16 e9
  exact hQ _ h v
set_option maxRecDepth 100000 in
set_option maxHeartbeats 4000000 in
theorem jaX6_init {Q Q' : kx_S → Prop} (hQ : ∀ y0, Q y0 → Q' y0) : ∀ (l0 : Nat) (l1 : Int32) (l2 : Int32) (l3 : Int32) (l4 : Int32) (σ : kx_S), wX6_init l0 l1 l2 l3 l4 σ Q → vX6_init l0 l1 l2 l3 l4 σ Q' := by
  intro l0 l1 l2 l3 l4 σ h
  unfold wX6_init at h
  unfold vX6_init
  intro e1
  have h := h.2
  intro σ2 e2
  have h := h σ2 e2
  intro σ4 e3
  have h := h σ4 e3
  intro σ6 e4
  have h := h σ6 e4
  intro σ8 e5
  have h := h σ8 e5
  intro σ10 e6
  have h := h σ10 e6
  intro σ12 e7
  have h := h σ12 e7
  intro σ14 e8
  have h := h σ14 e8
  intro σ16 e9
  have h := h σ16 e9
  exact hQ _ h
set_option maxRecDepth 100000 in
set_option maxHeartbeats 4000000 in
theorem jfX6_init {I : kx_S → Prop} (W : fw_ I [128, 129, 130, 131, 132, 133, 134, 136]) {Q : kx_S → Prop} (hQ : ∀ y0, I y0 → Q y0) : ∀ (l0 : Nat) (l1 : Int32) (l2 : Int32) (l3 : Int32) (l4 : Int32) (σ : kx_S), I σ → vX6_init l0 l1 l2 l3 l4 σ Q := by
  intro l0 l1 l2 l3 l4 σ i
  unfold vX6_init
  intro e1
  intro σ2 e2
  have iσ2 : I σ2 := by rw [e2]; exact ((W _ i).1 128 (by decide)).1 _ _
  intro σ4 e3
  have iσ4 : I σ4 := by rw [e3]; exact ((W _ iσ2).1 129 (by decide)).1 _ _
  intro σ6 e4
  have iσ6 : I σ6 := by rw [e4]; exact ((W _ iσ4).1 130 (by decide)).1 _ _
  intro σ8 e5
  have iσ8 : I σ8 := by rw [e5]; exact ((W _ iσ6).1 131 (by decide)).1 _ _
  intro σ10 e6
  have iσ10 : I σ10 := by rw [e6]; exact ((W _ iσ8).1 132 (by decide)).1 _ _
  intro σ12 e7
  have iσ12 : I σ12 := by rw [e7]; exact ((W _ iσ10).1 133 (by decide)).1 _ _
  intro σ14 e8
  have iσ14 : I σ14 := by rw [e8]; exact ((W _ iσ12).1 134 (by decide)).1 _ _
  intro σ16 e9
  have iσ16 : I σ16 := by rw [e9]; exact ((W _ iσ14).1 136 (by decide)).1 _ _
  exact hQ _ iσ16
def vX6_floatIn (l0 : Nat) (l1 : Int32) (l2 : Int32) (σ : kx_S) (Q : kx_S → Prop) : Prop := xt σ l0 = 8 → ∀ σ2, σ2 = xsi σ 132 l0 1 → ∀ σ4, σ4 = xsi σ2 133 l0 l1 → ∀ σ6, σ6 = xsi σ4 134 l0 l2 → Q σ6
set_option maxRecDepth 100000 in
set_option maxHeartbeats 4000000 in
theorem jcX6_floatIn {Q Q' Q'' : kx_S → Prop} (hQ : ∀ y0, Q y0 → Q' y0 → Q'' y0) : ∀ (l0 : Nat) (l1 : Int32) (l2 : Int32) (σ : kx_S), wX6_floatIn l0 l1 l2 σ Q → vX6_floatIn l0 l1 l2 σ Q' → wX6_floatIn l0 l1 l2 σ Q'' := by
  intro l0 l1 l2 σ h v
  unfold wX6_floatIn at h
  unfold vX6_floatIn at v
  unfold wX6_floatIn
  refine ⟨h.1, ?_⟩
  have v := v h.1
  have h := h.2
  intro σ2 e2
  have h := h σ2 e2
  have v := v σ2 e2
  intro σ4 e3
  have h := h σ4 e3
  have v := v σ4 e3
  intro σ6 e4
  have h := h σ6 e4
  have v := v σ6 e4
  exact hQ _ h v
set_option maxRecDepth 100000 in
set_option maxHeartbeats 4000000 in
theorem jaX6_floatIn {Q Q' : kx_S → Prop} (hQ : ∀ y0, Q y0 → Q' y0) : ∀ (l0 : Nat) (l1 : Int32) (l2 : Int32) (σ : kx_S), wX6_floatIn l0 l1 l2 σ Q → vX6_floatIn l0 l1 l2 σ Q' := by
  intro l0 l1 l2 σ h
  unfold wX6_floatIn at h
  unfold vX6_floatIn
  intro e1
  have h := h.2
  intro σ2 e2
  have h := h σ2 e2
  intro σ4 e3
  have h := h σ4 e3
  intro σ6 e4
  have h := h σ6 e4
  exact hQ _ h
set_option maxRecDepth 100000 in
set_option maxHeartbeats 4000000 in
theorem jfX6_floatIn {I : kx_S → Prop} (W : fw_ I [132, 133, 134]) {Q : kx_S → Prop} (hQ : ∀ y0, I y0 → Q y0) : ∀ (l0 : Nat) (l1 : Int32) (l2 : Int32) (σ : kx_S), I σ → vX6_floatIn l0 l1 l2 σ Q := by
  intro l0 l1 l2 σ i
  unfold vX6_floatIn
  intro e1
  intro σ2 e2
  have iσ2 : I σ2 := by rw [e2]; exact ((W _ i).1 132 (by decide)).1 _ _
  intro σ4 e3
  have iσ4 : I σ4 := by rw [e3]; exact ((W _ iσ2).1 133 (by decide)).1 _ _
  intro σ6 e4
  have iσ6 : I σ6 := by rw [e4]; exact ((W _ iσ4).1 134 (by decide)).1 _ _
  exact hQ _ iσ6
def vX6_lieInHeap (l0 : Nat) (σ : kx_S) (Q : kx_S → Prop) : Prop := xt σ l0 = 8 → ∀ σ2, σ2 = xsi σ 132 l0 2 → ∀ σ4, σ4 = xsi σ2 134 l0 (-1) → Q σ4
set_option maxRecDepth 100000 in
set_option maxHeartbeats 4000000 in
theorem jcX6_lieInHeap {Q Q' Q'' : kx_S → Prop} (hQ : ∀ y0, Q y0 → Q' y0 → Q'' y0) : ∀ (l0 : Nat) (σ : kx_S), wX6_lieInHeap l0 σ Q → vX6_lieInHeap l0 σ Q' → wX6_lieInHeap l0 σ Q'' := by
  intro l0 σ h v
  unfold wX6_lieInHeap at h
  unfold vX6_lieInHeap at v
  unfold wX6_lieInHeap
  refine ⟨h.1, ?_⟩
  have v := v h.1
  have h := h.2
  intro σ2 e2
  have h := h σ2 e2
  have v := v σ2 e2
  intro σ4 e3
  have h := h σ4 e3
  have v := v σ4 e3
  exact hQ _ h v
set_option maxRecDepth 100000 in
set_option maxHeartbeats 4000000 in
theorem jaX6_lieInHeap {Q Q' : kx_S → Prop} (hQ : ∀ y0, Q y0 → Q' y0) : ∀ (l0 : Nat) (σ : kx_S), wX6_lieInHeap l0 σ Q → vX6_lieInHeap l0 σ Q' := by
  intro l0 σ h
  unfold wX6_lieInHeap at h
  unfold vX6_lieInHeap
  intro e1
  have h := h.2
  intro σ2 e2
  have h := h σ2 e2
  intro σ4 e3
  have h := h σ4 e3
  exact hQ _ h
set_option maxRecDepth 100000 in
set_option maxHeartbeats 4000000 in
theorem jfX6_lieInHeap {I : kx_S → Prop} (W : fw_ I [132, 134]) {Q : kx_S → Prop} (hQ : ∀ y0, I y0 → Q y0) : ∀ (l0 : Nat) (σ : kx_S), I σ → vX6_lieInHeap l0 σ Q := by
  intro l0 σ i
  unfold vX6_lieInHeap
  intro e1
  intro σ2 e2
  have iσ2 : I σ2 := by rw [e2]; exact ((W _ i).1 132 (by decide)).1 _ _
  intro σ4 e3
  have iσ4 : I σ4 := by rw [e3]; exact ((W _ iσ2).1 134 (by decide)).1 _ _
  exact hQ _ iσ4
def vX6_goToSea (l0 : Nat) (σ : kx_S) (Q : kx_S → Prop) : Prop := xt σ l0 = 8 → ∀ σ2, σ2 = xsi σ 132 l0 4 → ∀ σ4, σ4 = xsi σ2 133 l0 (-1) → ∀ σ6, σ6 = xsi σ4 134 l0 (-1) → Q σ6
set_option maxRecDepth 100000 in
set_option maxHeartbeats 4000000 in
theorem jcX6_goToSea {Q Q' Q'' : kx_S → Prop} (hQ : ∀ y0, Q y0 → Q' y0 → Q'' y0) : ∀ (l0 : Nat) (σ : kx_S), wX6_goToSea l0 σ Q → vX6_goToSea l0 σ Q' → wX6_goToSea l0 σ Q'' := by
  intro l0 σ h v
  unfold wX6_goToSea at h
  unfold vX6_goToSea at v
  unfold wX6_goToSea
  refine ⟨h.1, ?_⟩
  have v := v h.1
  have h := h.2
  intro σ2 e2
  have h := h σ2 e2
  have v := v σ2 e2
  intro σ4 e3
  have h := h σ4 e3
  have v := v σ4 e3
  intro σ6 e4
  have h := h σ6 e4
  have v := v σ6 e4
  exact hQ _ h v
set_option maxRecDepth 100000 in
set_option maxHeartbeats 4000000 in
theorem jaX6_goToSea {Q Q' : kx_S → Prop} (hQ : ∀ y0, Q y0 → Q' y0) : ∀ (l0 : Nat) (σ : kx_S), wX6_goToSea l0 σ Q → vX6_goToSea l0 σ Q' := by
  intro l0 σ h
  unfold wX6_goToSea at h
  unfold vX6_goToSea
  intro e1
  have h := h.2
  intro σ2 e2
  have h := h σ2 e2
  intro σ4 e3
  have h := h σ4 e3
  intro σ6 e4
  have h := h σ6 e4
  exact hQ _ h
set_option maxRecDepth 100000 in
set_option maxHeartbeats 4000000 in
theorem jfX6_goToSea {I : kx_S → Prop} (W : fw_ I [132, 133, 134]) {Q : kx_S → Prop} (hQ : ∀ y0, I y0 → Q y0) : ∀ (l0 : Nat) (σ : kx_S), I σ → vX6_goToSea l0 σ Q := by
  intro l0 σ i
  unfold vX6_goToSea
  intro e1
  intro σ2 e2
  have iσ2 : I σ2 := by rw [e2]; exact ((W _ i).1 132 (by decide)).1 _ _
  intro σ4 e3
  have iσ4 : I σ4 := by rw [e3]; exact ((W _ iσ2).1 133 (by decide)).1 _ _
  intro σ6 e4
  have iσ6 : I σ6 := by rw [e4]; exact ((W _ iσ4).1 134 (by decide)).1 _ _
  exact hQ _ iσ6
def vX6_becomeBoards (l0 : Nat) (l1 : Int32) (σ : kx_S) (Q : kx_S → Prop) : Prop := xt σ l0 = 8 → ∀ σ2, σ2 = xsi σ 132 l0 3 → ∀ σ4, σ4 = xsi σ2 136 l0 l1 → Q σ4
set_option maxRecDepth 100000 in
set_option maxHeartbeats 4000000 in
theorem jcX6_becomeBoards {Q Q' Q'' : kx_S → Prop} (hQ : ∀ y0, Q y0 → Q' y0 → Q'' y0) : ∀ (l0 : Nat) (l1 : Int32) (σ : kx_S), wX6_becomeBoards l0 l1 σ Q → vX6_becomeBoards l0 l1 σ Q' → wX6_becomeBoards l0 l1 σ Q'' := by
  intro l0 l1 σ h v
  unfold wX6_becomeBoards at h
  unfold vX6_becomeBoards at v
  unfold wX6_becomeBoards
  refine ⟨h.1, ?_⟩
  have v := v h.1
  have h := h.2
  intro σ2 e2
  have h := h σ2 e2
  have v := v σ2 e2
  intro σ4 e3
  have h := h σ4 e3
  have v := v σ4 e3
  exact hQ _ h v
set_option maxRecDepth 100000 in
set_option maxHeartbeats 4000000 in
theorem jaX6_becomeBoards {Q Q' : kx_S → Prop} (hQ : ∀ y0, Q y0 → Q' y0) : ∀ (l0 : Nat) (l1 : Int32) (σ : kx_S), wX6_becomeBoards l0 l1 σ Q → vX6_becomeBoards l0 l1 σ Q' := by
  intro l0 l1 σ h
  unfold wX6_becomeBoards at h
  unfold vX6_becomeBoards
  intro e1
  have h := h.2
  intro σ2 e2
  have h := h σ2 e2
  intro σ4 e3
  have h := h σ4 e3
  exact hQ _ h
set_option maxRecDepth 100000 in
set_option maxHeartbeats 4000000 in
theorem jfX6_becomeBoards {I : kx_S → Prop} (W : fw_ I [132, 136]) {Q : kx_S → Prop} (hQ : ∀ y0, I y0 → Q y0) : ∀ (l0 : Nat) (l1 : Int32) (σ : kx_S), I σ → vX6_becomeBoards l0 l1 σ Q := by
  intro l0 l1 σ i
  unfold vX6_becomeBoards
  intro e1
  intro σ2 e2
  have iσ2 : I σ2 := by rw [e2]; exact ((W _ i).1 132 (by decide)).1 _ _
  intro σ4 e3
  have iσ4 : I σ4 := by rw [e3]; exact ((W _ iσ2).1 136 (by decide)).1 _ _
  exact hQ _ iσ4
def vX7_init (l0 : Nat) (l1 : Int32) (l2 : Int32) (l3 : Int32) (σ : kx_S) (Q : kx_S → Prop) : Prop := xt σ l0 = 9 → ∀ σ2, σ2 = xsi σ 144 l0 l1 → ∀ σ4, σ4 = xsi σ2 145 l0 l2 → ∀ σ6, σ6 = xsi σ4 146 l0 l3 → Q σ6
set_option maxRecDepth 100000 in
set_option maxHeartbeats 4000000 in
theorem jcX7_init {Q Q' Q'' : kx_S → Prop} (hQ : ∀ y0, Q y0 → Q' y0 → Q'' y0) : ∀ (l0 : Nat) (l1 : Int32) (l2 : Int32) (l3 : Int32) (σ : kx_S), wX7_init l0 l1 l2 l3 σ Q → vX7_init l0 l1 l2 l3 σ Q' → wX7_init l0 l1 l2 l3 σ Q'' := by
  intro l0 l1 l2 l3 σ h v
  unfold wX7_init at h
  unfold vX7_init at v
  unfold wX7_init
  refine ⟨h.1, ?_⟩
  have v := v h.1
  have h := h.2
  intro σ2 e2
  have h := h σ2 e2
  have v := v σ2 e2
  intro σ4 e3
  have h := h σ4 e3
  have v := v σ4 e3
  intro σ6 e4
  have h := h σ6 e4
  have v := v σ6 e4
  exact hQ _ h v
set_option maxRecDepth 100000 in
set_option maxHeartbeats 4000000 in
theorem jaX7_init {Q Q' : kx_S → Prop} (hQ : ∀ y0, Q y0 → Q' y0) : ∀ (l0 : Nat) (l1 : Int32) (l2 : Int32) (l3 : Int32) (σ : kx_S), wX7_init l0 l1 l2 l3 σ Q → vX7_init l0 l1 l2 l3 σ Q' := by
  intro l0 l1 l2 l3 σ h
  unfold wX7_init at h
  unfold vX7_init
  intro e1
  have h := h.2
  intro σ2 e2
  have h := h σ2 e2
  intro σ4 e3
  have h := h σ4 e3
  intro σ6 e4
  have h := h σ6 e4
  exact hQ _ h
set_option maxRecDepth 100000 in
set_option maxHeartbeats 4000000 in
theorem jfX7_init {I : kx_S → Prop} (W : fw_ I [144, 145, 146]) {Q : kx_S → Prop} (hQ : ∀ y0, I y0 → Q y0) : ∀ (l0 : Nat) (l1 : Int32) (l2 : Int32) (l3 : Int32) (σ : kx_S), I σ → vX7_init l0 l1 l2 l3 σ Q := by
  intro l0 l1 l2 l3 σ i
  unfold vX7_init
  intro e1
  intro σ2 e2
  have iσ2 : I σ2 := by rw [e2]; exact ((W _ i).1 144 (by decide)).1 _ _
  intro σ4 e3
  have iσ4 : I σ4 := by rw [e3]; exact ((W _ iσ2).1 145 (by decide)).1 _ _
  intro σ6 e4
  have iσ6 : I σ6 := by rw [e4]; exact ((W _ iσ4).1 146 (by decide)).1 _ _
  exact hQ _ iσ6
def vX8_init (l0 : Nat) (l1 : Int32) (l2 : Option Nat) (l3 : Int32) (σ : kx_S) (Q : kx_S → Prop) : Prop := xt σ l0 = 10 → ∀ σ2, σ2 = xsi σ 160 l0 l1 → ∀ σ4, σ4 = xsr σ2 161 l0 l2 → ∀ σ6, σ6 = xsi σ4 162 l0 l3 → xc σ6 < kx_N → ∀ p9, xt σ6 p9 = 0 → p9 ≠ xz σ6 → ∀ σ12, σ12 = xnew σ6 p9 1 → vJx4a65c_init_da8c8 p9 σ12 (fun σ14 => xt σ14 l0 = 10 → ∀ σ16, σ16 = xsr σ14 163 l0 (some p9) → Q σ16)
set_option maxRecDepth 100000 in
set_option maxHeartbeats 4000000 in
theorem jcX8_init {Q Q' Q'' : kx_S → Prop} (hQ : ∀ y0, Q y0 → Q' y0 → Q'' y0) : ∀ (l0 : Nat) (l1 : Int32) (l2 : Option Nat) (l3 : Int32) (σ : kx_S), wX8_init l0 l1 l2 l3 σ Q → vX8_init l0 l1 l2 l3 σ Q' → wX8_init l0 l1 l2 l3 σ Q'' := by
  intro l0 l1 l2 l3 σ h v
  unfold wX8_init at h
  unfold vX8_init at v
  unfold wX8_init
  refine ⟨h.1, ?_⟩
  have v := v h.1
  have h := h.2
  intro σ2 e2
  have h := h σ2 e2
  have v := v σ2 e2
  intro σ4 e3
  have h := h σ4 e3
  have v := v σ4 e3
  intro σ6 e4
  have h := h σ6 e4
  have v := v σ6 e4
  refine ⟨h.1, ?_⟩
  have v := v h.1
  have h := h.2
  intro p9 e6 e7
  have h := h p9 e6 e7
  have v := v p9 e6 e7
  intro σ12 e8
  have h := h σ12 e8
  have v := v σ12 e8
  refine jcJx4a65c_init_da8c8 ?_ _ _ h v
  intro σ14 h v
  refine ⟨h.1, ?_⟩
  have v := v h.1
  have h := h.2
  intro σ16 e10
  have h := h σ16 e10
  have v := v σ16 e10
  exact hQ _ h v
set_option maxRecDepth 100000 in
set_option maxHeartbeats 4000000 in
theorem jaX8_init {Q Q' : kx_S → Prop} (hQ : ∀ y0, Q y0 → Q' y0) : ∀ (l0 : Nat) (l1 : Int32) (l2 : Option Nat) (l3 : Int32) (σ : kx_S), wX8_init l0 l1 l2 l3 σ Q → vX8_init l0 l1 l2 l3 σ Q' := by
  intro l0 l1 l2 l3 σ h
  unfold wX8_init at h
  unfold vX8_init
  intro e1
  have h := h.2
  intro σ2 e2
  have h := h σ2 e2
  intro σ4 e3
  have h := h σ4 e3
  intro σ6 e4
  have h := h σ6 e4
  intro e5
  have h := h.2
  intro p9 e6 e7
  have h := h p9 e6 e7
  intro σ12 e8
  have h := h σ12 e8
  refine jaJx4a65c_init_da8c8 ?_ _ _ h
  intro σ14 h
  intro e9
  have h := h.2
  intro σ16 e10
  have h := h σ16 e10
  exact hQ _ h
set_option maxRecDepth 100000 in
set_option maxHeartbeats 4000000 in
theorem jfX8_init {I : kx_S → Prop} (W : fw_ I [16, 17, 160, 161, 162, 163, 1101]) {Q : kx_S → Prop} (hQ : ∀ y0, I y0 → Q y0) : ∀ (l0 : Nat) (l1 : Int32) (l2 : Option Nat) (l3 : Int32) (σ : kx_S), I σ → vX8_init l0 l1 l2 l3 σ Q := by
  intro l0 l1 l2 l3 σ i
  unfold vX8_init
  intro e1
  intro σ2 e2
  have iσ2 : I σ2 := by rw [e2]; exact ((W _ i).1 160 (by decide)).1 _ _
  intro σ4 e3
  have iσ4 : I σ4 := by rw [e3]; exact ((W _ iσ2).1 161 (by decide)).2.1 _ _
  intro σ6 e4
  have iσ6 : I σ6 := by rw [e4]; exact ((W _ iσ4).1 162 (by decide)).1 _ _
  intro e5
  intro p9 e6 e7
  intro σ12 e8
  have iσ12 : I σ12 := by rw [e8]; exact (W _ iσ6).2.2.2.2.2.2.1 1 (by decide) _ e6
  refine jfJx4a65c_init_da8c8 (I := I) (fw_sub W (by decide)) ?_ _ _ iσ12
  intro σ14 iσ14
  intro e9
  intro σ16 e10
  have iσ16 : I σ16 := by rw [e10]; exact ((W _ iσ14).1 163 (by decide)).2.1 _ _
  exact hQ _ iσ16
def vX8_passWater (l0 : Nat) (σ : kx_S) (Q : kx_S → Prop) : Prop := xt σ l0 = 10 → ((¬ (xi σ 165 l0) = 0 → ∀ σ3, σ3 = xsi σ 167 l0 ((xi σ 167 l0) + (xi σ 169 l0)) → ∀ v5, v5 = (if ((xi σ3 167 l0) - (xi σ3 166 l0)) < 0 then 0 else ((xi σ3 167 l0) - (xi σ3 166 l0))) → ∀ v6, v6 = (if ((xi σ3 167 l0) - v5) < (xi σ3 168 l0) then ((xi σ3 167 l0) - v5) else (xi σ3 168 l0)) → ∀ σ7, σ7 = xsi σ3 170 l0 (v5 + v6) → ∀ σ9, σ9 = xsi σ7 167 l0 ((xi σ7 167 l0) - (xi σ7 170 l0)) → Q σ9) ∧ ((xi σ 165 l0) = 0 → ∀ σ11, σ11 = xsi σ 170 l0 (xi σ 169 l0) → Q σ11))
set_option maxRecDepth 100000 in
set_option maxHeartbeats 4000000 in
theorem jcX8_passWater {Q Q' Q'' : kx_S → Prop} (hQ : ∀ y0, Q y0 → Q' y0 → Q'' y0) : ∀ (l0 : Nat) (σ : kx_S), wX8_passWater l0 σ Q → vX8_passWater l0 σ Q' → wX8_passWater l0 σ Q'' := by
  intro l0 σ h v
  unfold wX8_passWater at h
  unfold vX8_passWater at v
  unfold wX8_passWater
  refine ⟨h.1, ?_⟩
  have v := v h.1
  have h := h.2
  refine ⟨?_, ?_⟩
  · have h := h.1
    have v := v.1
    intro e2
    have h := h e2
    have v := v e2
    intro σ3 e3
    have h := h σ3 e3
    have v := v σ3 e3
    intro v5 e4
    have h := h v5 e4
    have v := v v5 e4
    intro v6 e5
    have h := h v6 e5
    have v := v v6 e5
    intro σ7 e6
    have h := h σ7 e6
    have v := v σ7 e6
    intro σ9 e7
    have h := h σ9 e7
    have v := v σ9 e7
    exact hQ _ h v
  · have h := h.2
    have v := v.2
    intro e8
    have h := h e8
    have v := v e8
    intro σ11 e9
    have h := h σ11 e9
    have v := v σ11 e9
    exact hQ _ h v
set_option maxRecDepth 100000 in
set_option maxHeartbeats 4000000 in
theorem jaX8_passWater {Q Q' : kx_S → Prop} (hQ : ∀ y0, Q y0 → Q' y0) : ∀ (l0 : Nat) (σ : kx_S), wX8_passWater l0 σ Q → vX8_passWater l0 σ Q' := by
  intro l0 σ h
  unfold wX8_passWater at h
  unfold vX8_passWater
  intro e1
  have h := h.2
  refine ⟨?_, ?_⟩
  · have h := h.1
    intro e2
    have h := h e2
    intro σ3 e3
    have h := h σ3 e3
    intro v5 e4
    have h := h v5 e4
    intro v6 e5
    have h := h v6 e5
    intro σ7 e6
    have h := h σ7 e6
    intro σ9 e7
    have h := h σ9 e7
    exact hQ _ h
  · have h := h.2
    intro e8
    have h := h e8
    intro σ11 e9
    have h := h σ11 e9
    exact hQ _ h
set_option maxRecDepth 100000 in
set_option maxHeartbeats 4000000 in
theorem jfX8_passWater {I : kx_S → Prop} (W : fw_ I [167, 170]) {Q : kx_S → Prop} (hQ : ∀ y0, I y0 → Q y0) : ∀ (l0 : Nat) (σ : kx_S), I σ → vX8_passWater l0 σ Q := by
  intro l0 σ i
  unfold vX8_passWater
  intro e1
  refine ⟨?_, ?_⟩
  · intro e2
    intro σ3 e3
    have iσ3 : I σ3 := by rw [e3]; exact ((W _ i).1 167 (by decide)).1 _ _
    intro v5 e4
    intro v6 e5
    intro σ7 e6
    have iσ7 : I σ7 := by rw [e6]; exact ((W _ iσ3).1 170 (by decide)).1 _ _
    intro σ9 e7
    have iσ9 : I σ9 := by rw [e7]; exact ((W _ iσ7).1 167 (by decide)).1 _ _
    exact hQ _ iσ9
  · intro e8
    intro σ11 e9
    have iσ11 : I σ11 := by rw [e9]; exact ((W _ i).1 170 (by decide)).1 _ _
    exact hQ _ iσ11
def vX8_canTake (l0 : Nat) (l1 : Int32) (σ : kx_S) (Q : Int32 → kx_S → Prop) : Prop := ((l1 < 0 → Q 0 σ) ∧ (¬ (l1 < 0) → xt σ l0 = 10 → ∀ a3, xr σ 163 l0 = some a3 → xt σ a3 = 1 → vJx4a65c_size_8abf5 a3 σ (fun r6 σ5 => ((l1 < r6 → xt σ5 l0 = 10 → ∀ a10, xr σ5 163 l0 = some a10 → xt σ5 a10 = 1 → vJx4a65c_get_915e3 a10 l1 σ5 (fun q13 σ12 => ∀ a15, q13 = some a15 → xt σ12 a15 = 3 → ((¬ (xi σ12 50 a15) = 0 → Q 0 σ12) ∧ ((xi σ12 50 a15) = 0 → ∀ a19, xr σ12 49 a15 = some a19 → xt σ12 a19 = 1 → vJx4a65c_size_8abf5 a19 σ12 (fun r22 σ21 => xt σ21 a15 = 3 → (((xi σ21 48 a15) ≤ r22 → Q 0 σ21) ∧ (¬ ((xi σ21 48 a15) ≤ r22) → Q 1 σ21))))))) ∧ (¬ (l1 < r6) → Q 0 σ5)))))
set_option maxRecDepth 100000 in
set_option maxHeartbeats 4000000 in
theorem jcX8_canTake {Q Q' Q'' : Int32 → kx_S → Prop} (hQ : ∀ y0 y1, Q y0 y1 → Q' y0 y1 → Q'' y0 y1) : ∀ (l0 : Nat) (l1 : Int32) (σ : kx_S), wX8_canTake l0 l1 σ Q → vX8_canTake l0 l1 σ Q' → wX8_canTake l0 l1 σ Q'' := by
  intro l0 l1 σ h v
  unfold wX8_canTake at h
  unfold vX8_canTake at v
  unfold wX8_canTake
  refine ⟨?_, ?_⟩
  · have h := h.1
    have v := v.1
    intro e1
    have h := h e1
    have v := v e1
    exact hQ _ _ h v
  · have h := h.2
    have v := v.2
    intro e2
    have h := h e2
    have v := v e2
    refine ⟨h.1, ?_⟩
    have v := v h.1
    have h := h.2
    obtain ⟨a3, e4, h⟩ := h
    refine ⟨a3, e4, ?_⟩
    have v := v a3 e4
    refine ⟨h.1, ?_⟩
    have v := v h.1
    have h := h.2
    refine jcJx4a65c_size_8abf5 ?_ _ _ h v
    intro r6 σ5 h v
    refine ⟨?_, ?_⟩
    · have h := h.1
      have v := v.1
      intro e6
      have h := h e6
      have v := v e6
      refine ⟨h.1, ?_⟩
      have v := v h.1
      have h := h.2
      obtain ⟨a10, e8, h⟩ := h
      refine ⟨a10, e8, ?_⟩
      have v := v a10 e8
      refine ⟨h.1, ?_⟩
      have v := v h.1
      have h := h.2
      refine jcJx4a65c_get_915e3 ?_ _ _ _ h v
      intro q13 σ12 h v
      obtain ⟨a15, e10, h⟩ := h
      refine ⟨a15, e10, ?_⟩
      have v := v a15 e10
      refine ⟨h.1, ?_⟩
      have v := v h.1
      have h := h.2
      refine ⟨?_, ?_⟩
      · have h := h.1
        have v := v.1
        intro e12
        have h := h e12
        have v := v e12
        exact hQ _ _ h v
      · have h := h.2
        have v := v.2
        intro e13
        have h := h e13
        have v := v e13
        obtain ⟨a19, e14, h⟩ := h
        refine ⟨a19, e14, ?_⟩
        have v := v a19 e14
        refine ⟨h.1, ?_⟩
        have v := v h.1
        have h := h.2
        refine jcJx4a65c_size_8abf5 ?_ _ _ h v
        intro r22 σ21 h v
        refine ⟨h.1, ?_⟩
        have v := v h.1
        have h := h.2
        refine ⟨?_, ?_⟩
        · have h := h.1
          have v := v.1
          intro e17
          have h := h e17
          have v := v e17
          exact hQ _ _ h v
        · have h := h.2
          have v := v.2
          intro e18
          have h := h e18
          have v := v e18
          exact hQ _ _ h v
    · have h := h.2
      have v := v.2
      intro e19
      have h := h e19
      have v := v e19
      exact hQ _ _ h v
set_option maxRecDepth 100000 in
set_option maxHeartbeats 4000000 in
theorem jaX8_canTake {Q Q' : Int32 → kx_S → Prop} (hQ : ∀ y0 y1, Q y0 y1 → Q' y0 y1) : ∀ (l0 : Nat) (l1 : Int32) (σ : kx_S), wX8_canTake l0 l1 σ Q → vX8_canTake l0 l1 σ Q' := by
  intro l0 l1 σ h
  unfold wX8_canTake at h
  unfold vX8_canTake
  refine ⟨?_, ?_⟩
  · have h := h.1
    intro e1
    have h := h e1
    exact hQ _ _ h
  · have h := h.2
    intro e2
    have h := h e2
    intro e3
    have h := h.2
    obtain ⟨a3', e4, h⟩ := h
    intro a3 e5
    have x9 : a3' = a3 := Option.some.inj (e4.symm.trans e5)
    rw [x9] at h
    intro e6
    have h := h.2
    refine jaJx4a65c_size_8abf5 ?_ _ _ h
    intro r6 σ5 h
    refine ⟨?_, ?_⟩
    · have h := h.1
      intro e7
      have h := h e7
      intro e8
      have h := h.2
      obtain ⟨a10', e9, h⟩ := h
      intro a10 e10
      have x9 : a10' = a10 := Option.some.inj (e9.symm.trans e10)
      rw [x9] at h
      intro e11
      have h := h.2
      refine jaJx4a65c_get_915e3 ?_ _ _ _ h
      intro q13 σ12 h
      obtain ⟨a15', e12, h⟩ := h
      intro a15 e13
      have x9 : a15' = a15 := Option.some.inj (e12.symm.trans e13)
      rw [x9] at h
      intro e14
      have h := h.2
      refine ⟨?_, ?_⟩
      · have h := h.1
        intro e15
        have h := h e15
        exact hQ _ _ h
      · have h := h.2
        intro e16
        have h := h e16
        obtain ⟨a19', e17, h⟩ := h
        intro a19 e18
        have x9 : a19' = a19 := Option.some.inj (e17.symm.trans e18)
        rw [x9] at h
        intro e19
        have h := h.2
        refine jaJx4a65c_size_8abf5 ?_ _ _ h
        intro r22 σ21 h
        intro e20
        have h := h.2
        refine ⟨?_, ?_⟩
        · have h := h.1
          intro e21
          have h := h e21
          exact hQ _ _ h
        · have h := h.2
          intro e22
          have h := h e22
          exact hQ _ _ h
    · have h := h.2
      intro e23
      have h := h e23
      exact hQ _ _ h
set_option maxRecDepth 100000 in
set_option maxHeartbeats 4000000 in
theorem jfX8_canTake {I : kx_S → Prop} (W : fw_ I []) {Q : Int32 → kx_S → Prop} (hQ : ∀ y0 y1, I y1 → Q y0 y1) : ∀ (l0 : Nat) (l1 : Int32) (σ : kx_S), I σ → vX8_canTake l0 l1 σ Q := by
  intro l0 l1 σ i
  unfold vX8_canTake
  refine ⟨?_, ?_⟩
  · intro e1
    exact hQ _ _ i
  · intro e2
    intro e3
    intro a3 e4
    intro e5
    refine jfJx4a65c_size_8abf5 (I := I) (fw_sub W (by decide)) ?_ _ _ i
    intro r6 σ5 iσ5
    refine ⟨?_, ?_⟩
    · intro e6
      intro e7
      intro a10 e8
      intro e9
      refine jfJx4a65c_get_915e3 (I := I) (fw_sub W (by decide)) ?_ _ _ _ iσ5
      intro q13 σ12 iσ12
      intro a15 e10
      intro e11
      refine ⟨?_, ?_⟩
      · intro e12
        exact hQ _ _ iσ12
      · intro e13
        intro a19 e14
        intro e15
        refine jfJx4a65c_size_8abf5 (I := I) (fw_sub W (by decide)) ?_ _ _ iσ12
        intro r22 σ21 iσ21
        intro e16
        refine ⟨?_, ?_⟩
        · intro e17
          exact hQ _ _ iσ21
        · intro e18
          exact hQ _ _ iσ21
    · intro e19
      exact hQ _ _ iσ5
def vX8_takes (l0 : Nat) (l1 : Nat) (l2 : Int32) (σ : kx_S) (Q : Int32 → kx_S → Prop) : Prop := xt σ l0 = 10 → vX8_canTake l0 l2 σ (fun r2 σ1 => ((¬ r2 = 0 → xt σ1 l0 = 10 → ∀ a6, xr σ1 163 l0 = some a6 → xt σ1 a6 = 1 → vJx4a65c_get_915e3 a6 l2 σ1 (fun q9 σ8 => ∀ a11, q9 = some a11 → xt σ8 a11 = 3 → ∀ a14, xr σ8 49 a11 = some a14 → xt σ8 a14 = 1 → vJx4a65c_add_9ea2d a14 l1 σ8 (fun r17 σ16 => xt σ16 l0 = 10 → xt σ16 l1 = 8 → vX6_floatIn l1 (xi σ16 160 l0) l2 σ16 (fun σ20 => Q 1 σ20)))) ∧ (r2 = 0 → Q 0 σ1)))
set_option maxRecDepth 100000 in
set_option maxHeartbeats 4000000 in
theorem jcX8_takes {Q Q' Q'' : Int32 → kx_S → Prop} (hQ : ∀ y0 y1, Q y0 y1 → Q' y0 y1 → Q'' y0 y1) : ∀ (l0 : Nat) (l1 : Nat) (l2 : Int32) (σ : kx_S), wX8_takes l0 l1 l2 σ Q → vX8_takes l0 l1 l2 σ Q' → wX8_takes l0 l1 l2 σ Q'' := by
  intro l0 l1 l2 σ h v
  unfold wX8_takes at h
  unfold vX8_takes at v
  unfold wX8_takes
  refine ⟨h.1, ?_⟩
  have v := v h.1
  have h := h.2
  refine jcX8_canTake ?_ _ _ _ h v
  intro r2 σ1 h v
  refine ⟨?_, ?_⟩
  · have h := h.1
    have v := v.1
    intro e2
    have h := h e2
    have v := v e2
    refine ⟨h.1, ?_⟩
    have v := v h.1
    have h := h.2
    obtain ⟨a6, e4, h⟩ := h
    refine ⟨a6, e4, ?_⟩
    have v := v a6 e4
    refine ⟨h.1, ?_⟩
    have v := v h.1
    have h := h.2
    refine jcJx4a65c_get_915e3 ?_ _ _ _ h v
    intro q9 σ8 h v
    obtain ⟨a11, e6, h⟩ := h
    refine ⟨a11, e6, ?_⟩
    have v := v a11 e6
    refine ⟨h.1, ?_⟩
    have v := v h.1
    have h := h.2
    obtain ⟨a14, e8, h⟩ := h
    refine ⟨a14, e8, ?_⟩
    have v := v a14 e8
    refine ⟨h.1, ?_⟩
    have v := v h.1
    have h := h.2
    refine jcJx4a65c_add_9ea2d ?_ _ _ _ h v
    intro r17 σ16 h v
    refine ⟨h.1, ?_⟩
    have v := v h.1
    have h := h.2
    refine ⟨h.1, ?_⟩
    have v := v h.1
    have h := h.2
    refine jcX6_floatIn ?_ _ _ _ _ h v
    intro σ20 h v
    exact hQ _ _ h v
  · have h := h.2
    have v := v.2
    intro e12
    have h := h e12
    have v := v e12
    exact hQ _ _ h v
set_option maxRecDepth 100000 in
set_option maxHeartbeats 4000000 in
theorem jaX8_takes {Q Q' : Int32 → kx_S → Prop} (hQ : ∀ y0 y1, Q y0 y1 → Q' y0 y1) : ∀ (l0 : Nat) (l1 : Nat) (l2 : Int32) (σ : kx_S), wX8_takes l0 l1 l2 σ Q → vX8_takes l0 l1 l2 σ Q' := by
  intro l0 l1 l2 σ h
  unfold wX8_takes at h
  unfold vX8_takes
  intro e1
  have h := h.2
  refine jaX8_canTake ?_ _ _ _ h
  intro r2 σ1 h
  refine ⟨?_, ?_⟩
  · have h := h.1
    intro e2
    have h := h e2
    intro e3
    have h := h.2
    obtain ⟨a6', e4, h⟩ := h
    intro a6 e5
    have x9 : a6' = a6 := Option.some.inj (e4.symm.trans e5)
    rw [x9] at h
    intro e6
    have h := h.2
    refine jaJx4a65c_get_915e3 ?_ _ _ _ h
    intro q9 σ8 h
    obtain ⟨a11', e7, h⟩ := h
    intro a11 e8
    have x9 : a11' = a11 := Option.some.inj (e7.symm.trans e8)
    rw [x9] at h
    intro e9
    have h := h.2
    obtain ⟨a14', e10, h⟩ := h
    intro a14 e11
    have x9 : a14' = a14 := Option.some.inj (e10.symm.trans e11)
    rw [x9] at h
    intro e12
    have h := h.2
    refine jaJx4a65c_add_9ea2d ?_ _ _ _ h
    intro r17 σ16 h
    intro e13
    have h := h.2
    intro e14
    have h := h.2
    refine jaX6_floatIn ?_ _ _ _ _ h
    intro σ20 h
    exact hQ _ _ h
  · have h := h.2
    intro e15
    have h := h e15
    exact hQ _ _ h
set_option maxRecDepth 100000 in
set_option maxHeartbeats 4000000 in
theorem jfX8_takes {I : kx_S → Prop} (W : fw_ I [16, 17, 18, 132, 133, 134, 1003, 1222]) {Q : Int32 → kx_S → Prop} (hQ : ∀ y0 y1, I y1 → Q y0 y1) : ∀ (l0 : Nat) (l1 : Nat) (l2 : Int32) (σ : kx_S), I σ → vX8_takes l0 l1 l2 σ Q := by
  intro l0 l1 l2 σ i
  unfold vX8_takes
  intro e1
  refine jfX8_canTake (I := I) (fw_sub W (by decide)) ?_ _ _ _ i
  intro r2 σ1 iσ1
  refine ⟨?_, ?_⟩
  · intro e2
    intro e3
    intro a6 e4
    intro e5
    refine jfJx4a65c_get_915e3 (I := I) (fw_sub W (by decide)) ?_ _ _ _ iσ1
    intro q9 σ8 iσ8
    intro a11 e6
    intro e7
    intro a14 e8
    intro e9
    refine jfJx4a65c_add_9ea2d (I := I) (fw_sub W (by decide)) ?_ _ _ _ iσ8
    intro r17 σ16 iσ16
    intro e10
    intro e11
    refine jfX6_floatIn (I := I) (fw_sub W (by decide)) ?_ _ _ _ _ iσ16
    intro σ20 iσ20
    exact hQ _ _ iσ20
  · intro e12
    exact hQ _ _ iσ1
def vX8_jamFullCells_50 (k2 : Nat → Int32 → kx_S → Prop) (Q : kx_S → Prop) (l0 : Nat) (l1 : Int32) (σ : kx_S) : Prop := ∀ v1 : Int32, v1 = l1 + 1 → k2 l0 v1 σ
set_option maxRecDepth 100000 in
set_option maxHeartbeats 4000000 in
theorem jcX8_jamFullCells_50 {k2 k2' k2'' : Nat → Int32 → kx_S → Prop} (hk2 : ∀ y0 y1 y2, k2 y0 y1 y2 → k2' y0 y1 y2 → k2'' y0 y1 y2) {Q Q' Q'' : kx_S → Prop} (hQ : ∀ y0, Q y0 → Q' y0 → Q'' y0) : ∀ (l0 : Nat) (l1 : Int32) (σ : kx_S), wX8_jamFullCells_50 k2 Q l0 l1 σ → vX8_jamFullCells_50 k2' Q' l0 l1 σ → wX8_jamFullCells_50 k2'' Q'' l0 l1 σ := by
  intro l0 l1 σ h v
  unfold wX8_jamFullCells_50 at h
  unfold vX8_jamFullCells_50 at v
  unfold wX8_jamFullCells_50
  intro v1 e1
  have h := h v1 e1
  have v := v v1 e1
  exact hk2 _ _ _ h v
set_option maxRecDepth 100000 in
set_option maxHeartbeats 4000000 in
theorem jaX8_jamFullCells_50 {k2 k2' : Nat → Int32 → kx_S → Prop} (hk2 : ∀ y0 y1 y2, k2 y0 y1 y2 → k2' y0 y1 y2) {Q Q' : kx_S → Prop} (hQ : ∀ y0, Q y0 → Q' y0) : ∀ (l0 : Nat) (l1 : Int32) (σ : kx_S), wX8_jamFullCells_50 k2 Q l0 l1 σ → vX8_jamFullCells_50 k2' Q' l0 l1 σ := by
  intro l0 l1 σ h
  unfold wX8_jamFullCells_50 at h
  unfold vX8_jamFullCells_50
  intro v1 e1
  have h := h v1 e1
  exact hk2 _ _ _ h
set_option maxRecDepth 100000 in
set_option maxHeartbeats 4000000 in
theorem jfX8_jamFullCells_50 {I : kx_S → Prop} (W : fw_ I []) {k2 : Nat → Int32 → kx_S → Prop} (hk2 : ∀ y0 y1 y2, I y2 → k2 y0 y1 y2) {Q : kx_S → Prop} (hQ : ∀ y0, I y0 → Q y0) : ∀ (l0 : Nat) (l1 : Int32) (σ : kx_S), I σ → vX8_jamFullCells_50 k2 Q l0 l1 σ := by
  intro l0 l1 σ i
  unfold vX8_jamFullCells_50
  intro v1 e1
  exact hk2 _ _ _ i
def vX8_jamFullCells_2 (Q : kx_S → Prop) : Nat → Nat → Int32 → kx_S → Prop
  | 0, _, _, _ => True
  | n + 1, l0, l1, σ => xt σ l0 = 10 → ∀ a3, xr σ 163 l0 = some a3 → xt σ a3 = 1 → vJx4a65c_size_8abf5 a3 σ (fun r6 σ5 => ((r6 ≤ l1 → Q σ5) ∧ (¬ (r6 ≤ l1) → xt σ5 l0 = 10 → ∀ a10, xr σ5 163 l0 = some a10 → xt σ5 a10 = 1 → vJx4a65c_get_915e3 a10 l1 σ5 (fun q13 σ12 => ∀ a15, q13 = some a15 → xt σ12 a15 = 3 → ∀ a18, xr σ12 49 a15 = some a18 → xt σ12 a18 = 1 → vJx4a65c_size_8abf5 a18 σ12 (fun r21 σ20 => xt σ20 a15 = 3 → ((r21 < (xi σ20 48 a15) → vX8_jamFullCells_50 (vX8_jamFullCells_2 Q n) Q l0 l1 σ20) ∧ (¬ (r21 < (xi σ20 48 a15)) → ∀ σ25, σ25 = xsi σ20 50 a15 1 → vX8_jamFullCells_50 (vX8_jamFullCells_2 Q n) Q l0 l1 σ25)))))))
set_option maxRecDepth 100000 in
set_option maxHeartbeats 4000000 in
theorem jcX8_jamFullCells_2 {Q Q' Q'' : kx_S → Prop} (hQ : ∀ y0, Q y0 → Q' y0 → Q'' y0) : ∀ (n : Nat) (l0 : Nat) (l1 : Int32) (σ : kx_S), wX8_jamFullCells_2 Q n l0 l1 σ → vX8_jamFullCells_2 Q' n l0 l1 σ → wX8_jamFullCells_2 Q'' n l0 l1 σ := by
  intro n
  induction n with
  | zero => intro l0 l1 σ h; exact h.elim
  | succ n ih =>
    intro l0 l1 σ h v
    unfold wX8_jamFullCells_2 at h
    unfold vX8_jamFullCells_2 at v
    unfold wX8_jamFullCells_2
    refine ⟨h.1, ?_⟩
    have v := v h.1
    have h := h.2
    obtain ⟨a3, e2, h⟩ := h
    refine ⟨a3, e2, ?_⟩
    have v := v a3 e2
    refine ⟨h.1, ?_⟩
    have v := v h.1
    have h := h.2
    refine jcJx4a65c_size_8abf5 ?_ _ _ h v
    intro r6 σ5 h v
    refine ⟨?_, ?_⟩
    · have h := h.1
      have v := v.1
      intro e4
      have h := h e4
      have v := v e4
      exact hQ _ h v
    · have h := h.2
      have v := v.2
      intro e5
      have h := h e5
      have v := v e5
      refine ⟨h.1, ?_⟩
      have v := v h.1
      have h := h.2
      obtain ⟨a10, e7, h⟩ := h
      refine ⟨a10, e7, ?_⟩
      have v := v a10 e7
      refine ⟨h.1, ?_⟩
      have v := v h.1
      have h := h.2
      refine jcJx4a65c_get_915e3 ?_ _ _ _ h v
      intro q13 σ12 h v
      obtain ⟨a15, e9, h⟩ := h
      refine ⟨a15, e9, ?_⟩
      have v := v a15 e9
      refine ⟨h.1, ?_⟩
      have v := v h.1
      have h := h.2
      obtain ⟨a18, e11, h⟩ := h
      refine ⟨a18, e11, ?_⟩
      have v := v a18 e11
      refine ⟨h.1, ?_⟩
      have v := v h.1
      have h := h.2
      refine jcJx4a65c_size_8abf5 ?_ _ _ h v
      intro r21 σ20 h v
      refine ⟨h.1, ?_⟩
      have v := v h.1
      have h := h.2
      refine ⟨?_, ?_⟩
      · have h := h.1
        have v := v.1
        intro e14
        have h := h e14
        have v := v e14
        exact jcX8_jamFullCells_50 (k2 := wX8_jamFullCells_2 Q n) (k2' := vX8_jamFullCells_2 Q' n) (k2'' := wX8_jamFullCells_2 Q'' n) (fun _ _ _ h v => ih _ _ _ h v) hQ _ _ _ h v
      · have h := h.2
        have v := v.2
        intro e15
        have h := h e15
        have v := v e15
        intro σ25 e16
        have h := h σ25 e16
        have v := v σ25 e16
        exact jcX8_jamFullCells_50 (k2 := wX8_jamFullCells_2 Q n) (k2' := vX8_jamFullCells_2 Q' n) (k2'' := wX8_jamFullCells_2 Q'' n) (fun _ _ _ h v => ih _ _ _ h v) hQ _ _ _ h v
set_option maxRecDepth 100000 in
set_option maxHeartbeats 4000000 in
theorem jaX8_jamFullCells_2 {Q Q' : kx_S → Prop} (hQ : ∀ y0, Q y0 → Q' y0) : ∀ (n m : Nat) (l0 : Nat) (l1 : Int32) (σ : kx_S), wX8_jamFullCells_2 Q n l0 l1 σ → vX8_jamFullCells_2 Q' m l0 l1 σ := by
  intro n
  induction n with
  | zero => intro m l0 l1 σ h; exact h.elim
  | succ n ih =>
    intro m l0 l1 σ h
    cases m with
    | zero => exact trivial
    | succ m =>
      unfold wX8_jamFullCells_2 at h
      unfold vX8_jamFullCells_2
      intro e1
      have h := h.2
      obtain ⟨a3', e2, h⟩ := h
      intro a3 e3
      have x9 : a3' = a3 := Option.some.inj (e2.symm.trans e3)
      rw [x9] at h
      intro e4
      have h := h.2
      refine jaJx4a65c_size_8abf5 ?_ _ _ h
      intro r6 σ5 h
      refine ⟨?_, ?_⟩
      · have h := h.1
        intro e5
        have h := h e5
        exact hQ _ h
      · have h := h.2
        intro e6
        have h := h e6
        intro e7
        have h := h.2
        obtain ⟨a10', e8, h⟩ := h
        intro a10 e9
        have x9 : a10' = a10 := Option.some.inj (e8.symm.trans e9)
        rw [x9] at h
        intro e10
        have h := h.2
        refine jaJx4a65c_get_915e3 ?_ _ _ _ h
        intro q13 σ12 h
        obtain ⟨a15', e11, h⟩ := h
        intro a15 e12
        have x9 : a15' = a15 := Option.some.inj (e11.symm.trans e12)
        rw [x9] at h
        intro e13
        have h := h.2
        obtain ⟨a18', e14, h⟩ := h
        intro a18 e15
        have x9 : a18' = a18 := Option.some.inj (e14.symm.trans e15)
        rw [x9] at h
        intro e16
        have h := h.2
        refine jaJx4a65c_size_8abf5 ?_ _ _ h
        intro r21 σ20 h
        intro e17
        have h := h.2
        refine ⟨?_, ?_⟩
        · have h := h.1
          intro e18
          have h := h e18
          exact jaX8_jamFullCells_50 (k2 := wX8_jamFullCells_2 Q n) (k2' := vX8_jamFullCells_2 Q' m) (fun _ _ _ h => ih m _ _ _ h) hQ _ _ _ h
        · have h := h.2
          intro e19
          have h := h e19
          intro σ25 e20
          have h := h σ25 e20
          exact jaX8_jamFullCells_50 (k2 := wX8_jamFullCells_2 Q n) (k2' := vX8_jamFullCells_2 Q' m) (fun _ _ _ h => ih m _ _ _ h) hQ _ _ _ h
set_option maxRecDepth 100000 in
set_option maxHeartbeats 4000000 in
theorem jfX8_jamFullCells_2 {I : kx_S → Prop} (W : fw_ I [50]) {Q : kx_S → Prop} (hQ : ∀ y0, I y0 → Q y0) : ∀ (n : Nat) (l0 : Nat) (l1 : Int32) (σ : kx_S), I σ → vX8_jamFullCells_2 Q n l0 l1 σ := by
  intro n
  induction n with
  | zero => intro l0 l1 σ i; exact trivial
  | succ n ih =>
    intro l0 l1 σ i
    unfold vX8_jamFullCells_2
    intro e1
    intro a3 e2
    intro e3
    refine jfJx4a65c_size_8abf5 (I := I) (fw_sub W (by decide)) ?_ _ _ i
    intro r6 σ5 iσ5
    refine ⟨?_, ?_⟩
    · intro e4
      exact hQ _ iσ5
    · intro e5
      intro e6
      intro a10 e7
      intro e8
      refine jfJx4a65c_get_915e3 (I := I) (fw_sub W (by decide)) ?_ _ _ _ iσ5
      intro q13 σ12 iσ12
      intro a15 e9
      intro e10
      intro a18 e11
      intro e12
      refine jfJx4a65c_size_8abf5 (I := I) (fw_sub W (by decide)) ?_ _ _ iσ12
      intro r21 σ20 iσ20
      intro e13
      refine ⟨?_, ?_⟩
      · intro e14
        exact jfX8_jamFullCells_50 (I := I) (fw_sub W (by decide)) (k2 := vX8_jamFullCells_2 Q n) (fun _ _ _ i => ih _ _ _ i) hQ _ _ _ iσ20
      · intro e15
        intro σ25 e16
        have iσ25 : I σ25 := by rw [e16]; exact ((W _ iσ20).1 50 (by decide)).1 _ _
        exact jfX8_jamFullCells_50 (I := I) (fw_sub W (by decide)) (k2 := vX8_jamFullCells_2 Q n) (fun _ _ _ i => ih _ _ _ i) hQ _ _ _ iσ25

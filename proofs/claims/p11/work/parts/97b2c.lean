section
def vX6_init (l0 : Nat) (l1 : Int32) (l2 : Int32) (l3 : Int32) (l4 : Int32) (σ : kx_S) (Q : kx_S → Prop) : Prop := xt σ l0 = 8 → ∀ σ2, σ2 = xsi σ 128 l0 l1 → ∀ σ4, σ4 = xsi σ2 129 l0 l2 → ∀ σ6, σ6 = xsi σ4 130 l0 l3 → ∀ σ8, σ8 = xsi σ6 131 l0 l4 → ∀ σ10, σ10 = xsi σ8 132 l0 0 → ∀ σ12, σ12 = xsi σ10 133 l0 (-1) → ∀ σ14, σ14 = xsi σ12 134 l0 (-1) → ∀ σ16, σ16 = xsi σ14 136 l0 (-1) → Q σ16
set_option maxRecDepth 100000 in
set_option maxHeartbeats 4000000 in
theorem jcX6_init {Q Q' Q'' : kx_S → Prop} (hQ : ∀ y0, Q y0 → Q' y0 → Q'' y0) : ∀ (l0 : Nat) (l1 : Int32) (l2 : Int32) (l3 : Int32) (l4 : Int32) (σ : kx_S), wX6_init l0 l1 l2 l3 l4 σ Q → vX6_init l0 l1 l2 l3 l4 σ Q' → wX6_init l0 l1 l2 l3 l4 σ Q'' := by
  intro l0 l1 l2 l3 l4 σ h v
  unfold wX6_init at h
  unfold vX6_init at v
  unfold wX6_init
  refine ⟨h.1, ?_⟩
  have v := v h.1
  have h := h.2
  intro σ2 e2
  have h := h σ2 e2
  have v := v σ2 e2
  intro σ4 e3
  have h := h σ4 e3
  have v := v σ4 e3
  intro σ6 e4
  have h := h σ6 e4
  have v := v σ6 e4
  intro σ8 e5
  have h := h σ8 e5
  have v := v σ8 e5
  intro σ10 e6
  have h := h σ10 e6
  have v := v σ10 e6
  intro σ12 e7
  have h := h σ12 e7
  have v := v σ12 e7
  intro σ14 e8
  have h := h σ14 e8
  have v := v σ14 e8
  intro σ16 e9
  have h := h σ16 e9
  have v := v σ16 e9
  exact hQ _ h v
set_option maxRecDepth 100000 in
set_option maxHeartbeats 4000000 in
theorem jaX6_init {Q Q' : kx_S → Prop} (hQ : ∀ y0, Q y0 → Q' y0) : ∀ (l0 : Nat) (l1 : Int32) (l2 : Int32) (l3 : Int32) (l4 : Int32) (σ : kx_S), wX6_init l0 l1 l2 l3 l4 σ Q → vX6_init l0 l1 l2 l3 l4 σ Q' := by
  intro l0 l1 l2 l3 l4 σ h
  unfold wX6_init at h
  unfold vX6_init
  intro e1
  have h := h.2
  intro σ2 e2
  have h := h σ2 e2
  intro σ4 e3
  have h := h σ4 e3
  intro σ6 e4
  have h := h σ6 e4
  intro σ8 e5
  have h := h σ8 e5
  intro σ10 e6
  have h := h σ10 e6
  intro σ12 e7
  have h := h σ12 e7
  intro σ14 e8
  have h := h σ14 e8
  intro σ16 e9
  have h := h σ16 e9
  exact hQ _ h
set_option maxRecDepth 100000 in
set_option maxHeartbeats 4000000 in
theorem jfX6_init {I : kx_S → Prop} (W : fw_ I [128, 129, 130, 131, 132, 133, 134, 136]) {Q : kx_S → Prop} (hQ : ∀ y0, I y0 → Q y0) : ∀ (l0 : Nat) (l1 : Int32) (l2 : Int32) (l3 : Int32) (l4 : Int32) (σ : kx_S), I σ → vX6_init l0 l1 l2 l3 l4 σ Q := by
  intro l0 l1 l2 l3 l4 σ i
  unfold vX6_init
  intro e1
  intro σ2 e2
  have iσ2 : I σ2 := by rw [e2]; exact ((W _ i).1 128 (by decide)).1 _ _
  intro σ4 e3
  have iσ4 : I σ4 := by rw [e3]; exact ((W _ iσ2).1 129 (by decide)).1 _ _
  intro σ6 e4
  have iσ6 : I σ6 := by rw [e4]; exact ((W _ iσ4).1 130 (by decide)).1 _ _
  intro σ8 e5
  have iσ8 : I σ8 := by rw [e5]; exact ((W _ iσ6).1 131 (by decide)).1 _ _
  intro σ10 e6
  have iσ10 : I σ10 := by rw [e6]; exact ((W _ iσ8).1 132 (by decide)).1 _ _
  intro σ12 e7
  have iσ12 : I σ12 := by rw [e7]; exact ((W _ iσ10).1 133 (by decide)).1 _ _
  intro σ14 e8
  have iσ14 : I σ14 := by rw [e8]; exact ((W _ iσ12).1 134 (by decide)).1 _ _
  intro σ16 e9
  have iσ16 : I σ16 := by rw [e9]; exact ((W _ iσ14).1 136 (by decide)).1 _ _
  exact hQ _ iσ16
def vX6_floatIn (l0 : Nat) (l1 : Int32) (l2 : Int32) (σ : kx_S) (Q : kx_S → Prop) : Prop := xt σ l0 = 8 → ∀ σ2, σ2 = xsi σ 132 l0 1 → ∀ σ4, σ4 = xsi σ2 133 l0 l1 → ∀ σ6, σ6 = xsi σ4 134 l0 l2 → Q σ6
set_option maxRecDepth 100000 in
set_option maxHeartbeats 4000000 in
theorem jcX6_floatIn {Q Q' Q'' : kx_S → Prop} (hQ : ∀ y0, Q y0 → Q' y0 → Q'' y0) : ∀ (l0 : Nat) (l1 : Int32) (l2 : Int32) (σ : kx_S), wX6_floatIn l0 l1 l2 σ Q → vX6_floatIn l0 l1 l2 σ Q' → wX6_floatIn l0 l1 l2 σ Q'' := by
  intro l0 l1 l2 σ h v
  unfold wX6_floatIn at h
  unfold vX6_floatIn at v
  unfold wX6_floatIn
  refine ⟨h.1, ?_⟩
  have v := v h.1
  have h := h.2
  intro σ2 e2
  have h := h σ2 e2
  have v := v σ2 e2
  intro σ4 e3
  have h := h σ4 e3
  have v := v σ4 e3
  intro σ6 e4
  have h := h σ6 e4
  have v := v σ6 e4
  exact hQ _ h v
set_option maxRecDepth 100000 in
set_option maxHeartbeats 4000000 in
theorem jaX6_floatIn {Q Q' : kx_S → Prop} (hQ : ∀ y0, Q y0 → Q' y0) : ∀ (l0 : Nat) (l1 : Int32) (l2 : Int32) (σ : kx_S), wX6_floatIn l0 l1 l2 σ Q → vX6_floatIn l0 l1 l2 σ Q' := by
  intro l0 l1 l2 σ h
  unfold wX6_floatIn at h
  unfold vX6_floatIn
  intro e1
  have h := h.2
  intro σ2 e2
  have h := h σ2 e2
  intro σ4 e3
  have h := h σ4 e3
  intro σ6 e4
  have h := h σ6 e4
  exact hQ _ h
set_option maxRecDepth 100000 in
set_option maxHeartbeats 4000000 in
theorem jfX6_floatIn {I : kx_S → Prop} (W : fw_ I [132, 133, 134]) {Q : kx_S → Prop} (hQ : ∀ y0, I y0 → Q y0) : ∀ (l0 : Nat) (l1 : Int32) (l2 : Int32) (σ : kx_S), I σ → vX6_floatIn l0 l1 l2 σ Q := by
  intro l0 l1 l2 σ i
  unfold vX6_floatIn
  intro e1
  intro σ2 e2
  have iσ2 : I σ2 := by rw [e2]; exact ((W _ i).1 132 (by decide)).1 _ _
  intro σ4 e3
  have iσ4 : I σ4 := by rw [e3]; exact ((W _ iσ2).1 133 (by decide)).1 _ _
  intro σ6 e4
  have iσ6 : I σ6 := by rw [e4]; exact ((W _ iσ4).1 134 (by decide)).1 _ _
  exact hQ _ iσ6
def vX6_lieInHeap (l0 : Nat) (σ : kx_S) (Q : kx_S → Prop) : Prop := xt σ l0 = 8 → ∀ σ2, σ2 = xsi σ 132 l0 2 → ∀ σ4, σ4 = xsi σ2 134 l0 (-1) → Q σ4
set_option maxRecDepth 100000 in
set_option maxHeartbeats 4000000 in
theorem jcX6_lieInHeap {Q Q' Q'' : kx_S → Prop} (hQ : ∀ y0, Q y0 → Q' y0 → Q'' y0) : ∀ (l0 : Nat) (σ : kx_S), wX6_lieInHeap l0 σ Q → vX6_lieInHeap l0 σ Q' → wX6_lieInHeap l0 σ Q'' := by
  intro l0 σ h v
  unfold wX6_lieInHeap at h
  unfold vX6_lieInHeap at v
  unfold wX6_lieInHeap
  refine ⟨h.1, ?_⟩
  have v := v h.1
  have h := h.2
  intro σ2 e2
  have h := h σ2 e2
  have v := v σ2 e2
  intro σ4 e3
  have h := h σ4 e3
  have v := v σ4 e3
  exact hQ _ h v
set_option maxRecDepth 100000 in
set_option maxHeartbeats 4000000 in
theorem jaX6_lieInHeap {Q Q' : kx_S → Prop} (hQ : ∀ y0, Q y0 → Q' y0) : ∀ (l0 : Nat) (σ : kx_S), wX6_lieInHeap l0 σ Q → vX6_lieInHeap l0 σ Q' := by
  intro l0 σ h
  unfold wX6_lieInHeap at h
  unfold vX6_lieInHeap
  intro e1
  have h := h.2
  intro σ2 e2
  have h := h σ2 e2
  intro σ4 e3
  have h := h σ4 e3
  exact hQ _ h
set_option maxRecDepth 100000 in
set_option maxHeartbeats 4000000 in
theorem jfX6_lieInHeap {I : kx_S → Prop} (W : fw_ I [132, 134]) {Q : kx_S → Prop} (hQ : ∀ y0, I y0 → Q y0) : ∀ (l0 : Nat) (σ : kx_S), I σ → vX6_lieInHeap l0 σ Q := by
  intro l0 σ i
  unfold vX6_lieInHeap
  intro e1
  intro σ2 e2
  have iσ2 : I σ2 := by rw [e2]; exact ((W _ i).1 132 (by decide)).1 _ _
  intro σ4 e3
  have iσ4 : I σ4 := by rw [e3]; exact ((W _ iσ2).1 134 (by decide)).1 _ _
  exact hQ _ iσ4
def vX6_goToSea (l0 : Nat) (σ : kx_S) (Q : kx_S → Prop) : Prop := xt σ l0 = 8 → ∀ σ2, σ2 = xsi σ 132 l0 4 → ∀ σ4, σ4 = xsi σ2 133 l0 (-1) → ∀ σ6, σ6 = xsi σ4 134 l0 (-1) → Q σ6
set_option maxRecDepth 100000 in
set_option maxHeartbeats 4000000 in
theorem jcX6_goToSea {Q Q' Q'' : kx_S → Prop} (hQ : ∀ y0, Q y0 → Q' y0 → Q'' y0) : ∀ (l0 : Nat) (σ : kx_S), wX6_goToSea l0 σ Q → vX6_goToSea l0 σ Q' → wX6_goToSea l0 σ Q'' := by
  intro l0 σ h v
  unfold wX6_goToSea at h
  unfold vX6_goToSea at v
  unfold wX6_goToSea
  refine ⟨h.1, ?_⟩
  have v := v h.1
  have h := h.2
  intro σ2 e2
  have h := h σ2 e2
  have v := v σ2 e2
  intro σ4 e3
  have h := h σ4 e3
  have v := v σ4 e3
  intro σ6 e4
  have h := h σ6 e4
  have v := v σ6 e4
  exact hQ _ h v
set_option maxRecDepth 100000 in
set_option maxHeartbeats 4000000 in
theorem jaX6_goToSea {Q Q' : kx_S → Prop} (hQ : ∀ y0, Q y0 → Q' y0) : ∀ (l0 : Nat) (σ : kx_S), wX6_goToSea l0 σ Q → vX6_goToSea l0 σ Q' := by
  intro l0 σ h
  unfold wX6_goToSea at h
  unfold vX6_goToSea
  intro e1
  have h := h.2
  intro σ2 e2
  have h := h σ2 e2
  intro σ4 e3
  have h := h σ4 e3
  intro σ6 e4
  have h := h σ6 e4
  exact hQ _ h
set_option maxRecDepth 100000 in
set_option maxHeartbeats 4000000 in
theorem jfX6_goToSea {I : kx_S → Prop} (W : fw_ I [132, 133, 134]) {Q : kx_S → Prop} (hQ : ∀ y0, I y0 → Q y0) : ∀ (l0 : Nat) (σ : kx_S), I σ → vX6_goToSea l0 σ Q := by
  intro l0 σ i
  unfold vX6_goToSea
  intro e1
  intro σ2 e2
  have iσ2 : I σ2 := by rw [e2]; exact ((W _ i).1 132 (by decide)).1 _ _
  intro σ4 e3
  have iσ4 : I σ4 := by rw [e3]; exact ((W _ iσ2).1 133 (by decide)).1 _ _
  intro σ6 e4
  have iσ6 : I σ6 := by rw [e4]; exact ((W _ iσ4).1 134 (by decide)).1 _ _
  exact hQ _ iσ6
def vX6_becomeBoards (l0 : Nat) (l1 : Int32) (σ : kx_S) (Q : kx_S → Prop) : Prop := xt σ l0 = 8 → ∀ σ2, σ2 = xsi σ 132 l0 3 → ∀ σ4, σ4 = xsi σ2 136 l0 l1 → Q σ4
set_option maxRecDepth 100000 in
set_option maxHeartbeats 4000000 in
theorem jcX6_becomeBoards {Q Q' Q'' : kx_S → Prop} (hQ : ∀ y0, Q y0 → Q' y0 → Q'' y0) : ∀ (l0 : Nat) (l1 : Int32) (σ : kx_S), wX6_becomeBoards l0 l1 σ Q → vX6_becomeBoards l0 l1 σ Q' → wX6_becomeBoards l0 l1 σ Q'' := by
  intro l0 l1 σ h v
  unfold wX6_becomeBoards at h
  unfold vX6_becomeBoards at v
  unfold wX6_becomeBoards
  refine ⟨h.1, ?_⟩
  have v := v h.1
  have h := h.2
  intro σ2 e2
  have h := h σ2 e2
  have v := v σ2 e2
  intro σ4 e3
  have h := h σ4 e3
  have v := v σ4 e3
  exact hQ _ h v
set_option maxRecDepth 100000 in
set_option maxHeartbeats 4000000 in
theorem jaX6_becomeBoards {Q Q' : kx_S → Prop} (hQ : ∀ y0, Q y0 → Q' y0) : ∀ (l0 : Nat) (l1 : Int32) (σ : kx_S), wX6_becomeBoards l0 l1 σ Q → vX6_becomeBoards l0 l1 σ Q' := by
  intro l0 l1 σ h
  unfold wX6_becomeBoards at h
  unfold vX6_becomeBoards
  intro e1
  have h := h.2
  intro σ2 e2
  have h := h σ2 e2
  intro σ4 e3
  have h := h σ4 e3
  exact hQ _ h
set_option maxRecDepth 100000 in
set_option maxHeartbeats 4000000 in
theorem jfX6_becomeBoards {I : kx_S → Prop} (W : fw_ I [132, 136]) {Q : kx_S → Prop} (hQ : ∀ y0, I y0 → Q y0) : ∀ (l0 : Nat) (l1 : Int32) (σ : kx_S), I σ → vX6_becomeBoards l0 l1 σ Q := by
  intro l0 l1 σ i
  unfold vX6_becomeBoards
  intro e1
  intro σ2 e2
  have iσ2 : I σ2 := by rw [e2]; exact ((W _ i).1 132 (by decide)).1 _ _
  intro σ4 e3
  have iσ4 : I σ4 := by rw [e3]; exact ((W _ iσ2).1 136 (by decide)).1 _ _
  exact hQ _ iσ4
def vX7_init (l0 : Nat) (l1 : Int32) (l2 : Int32) (l3 : Int32) (σ : kx_S) (Q : kx_S → Prop) : Prop := xt σ l0 = 9 → ∀ σ2, σ2 = xsi σ 144 l0 l1 → ∀ σ4, σ4 = xsi σ2 145 l0 l2 → ∀ σ6, σ6 = xsi σ4 146 l0 l3 → Q σ6
set_option maxRecDepth 100000 in
set_option maxHeartbeats 4000000 in
theorem jcX7_init {Q Q' Q'' : kx_S → Prop} (hQ : ∀ y0, Q y0 → Q' y0 → Q'' y0) : ∀ (l0 : Nat) (l1 : Int32) (l2 : Int32) (l3 : Int32) (σ : kx_S), wX7_init l0 l1 l2 l3 σ Q → vX7_init l0 l1 l2 l3 σ Q' → wX7_init l0 l1 l2 l3 σ Q'' := by
  intro l0 l1 l2 l3 σ h v
  unfold wX7_init at h
  unfold vX7_init at v
  unfold wX7_init
  refine ⟨h.1, ?_⟩
  have v := v h.1
  have h := h.2
  intro σ2 e2
  have h := h σ2 e2
  have v := v σ2 e2
  intro σ4 e3
  have h := h σ4 e3
  have v := v σ4 e3
  intro σ6 e4
  have h := h σ6 e4
  have v := v σ6 e4
  exact hQ _ h v
set_option maxRecDepth 100000 in
set_option maxHeartbeats 4000000 in
theorem jaX7_init {Q Q' : kx_S → Prop} (hQ : ∀ y0, Q y0 → Q' y0) : ∀ (l0 : Nat) (l1 : Int32) (l2 : Int32) (l3 : Int32) (σ : kx_S), wX7_init l0 l1 l2 l3 σ Q → vX7_init l0 l1 l2 l3 σ Q' := by
  intro l0 l1 l2 l3 σ h
  unfold wX7_init at h
  unfold vX7_init
  intro e1
  have h := h.2
  intro σ2 e2
  have h := h σ2 e2
  intro σ4 e3
  have h := h σ4 e3
  intro σ6 e4
  have h := h σ6 e4
  exact hQ _ h
set_option maxRecDepth 100000 in
set_option maxHeartbeats 4000000 in
theorem jfX7_init {I : kx_S → Prop} (W : fw_ I [144, 145, 146]) {Q : kx_S → Prop} (hQ : ∀ y0, I y0 → Q y0) : ∀ (l0 : Nat) (l1 : Int32) (l2 : Int32) (l3 : Int32) (σ : kx_S), I σ → vX7_init l0 l1 l2 l3 σ Q := by
  intro l0 l1 l2 l3 σ i
  unfold vX7_init
  intro e1
  intro σ2 e2
  have iσ2 : I σ2 := by rw [e2]; exact ((W _ i).1 144 (by decide)).1 _ _
  intro σ4 e3
  have iσ4 : I σ4 := by rw [e3]; exact ((W _ iσ2).1 145 (by decide)).1 _ _
  intro σ6 e4
  have iσ6 : I σ6 := by rw [e4]; exact ((W _ iσ4).1 146 (by decide)).1 _ _
  exact hQ _ iσ6
def vX8_init (l0 : Nat) (l1 : Int32) (l2 : Option Nat) (l3 : Int32) (σ : kx_S) (Q : kx_S → Prop) : Prop := xt σ l0 = 10 → ∀ σ2, σ2 = xsi σ 160 l0 l1 → ∀ σ4, σ4 = xsr σ2 161 l0 l2 → ∀ σ6, σ6 = xsi σ4 162 l0 l3 → xc σ6 < kx_N → ∀ p9, xt σ6 p9 = 0 → p9 ≠ xz σ6 → ∀ σ12, σ12 = xnew σ6 p9 1 → vJx4a65c_init_da8c8 p9 σ12 (fun σ14 => xt σ14 l0 = 10 → ∀ σ16, σ16 = xsr σ14 163 l0 (some p9) → Q σ16)
set_option maxRecDepth 100000 in
set_option maxHeartbeats 4000000 in
theorem jcX8_init {Q Q' Q'' : kx_S → Prop} (hQ : ∀ y0, Q y0 → Q' y0 → Q'' y0) : ∀ (l0 : Nat) (l1 : Int32) (l2 : Option Nat) (l3 : Int32) (σ : kx_S), wX8_init l0 l1 l2 l3 σ Q → vX8_init l0 l1 l2 l3 σ Q' → wX8_init l0 l1 l2 l3 σ Q'' := by
  intro l0 l1 l2 l3 σ h v
  unfold wX8_init at h
  unfold vX8_init at v
  unfold wX8_init
  refine ⟨h.1, ?_⟩
  have v := v h.1
  have h := h.2
  intro σ2 e2
  have h := h σ2 e2
  have v := v σ2 e2
  intro σ4 e3
  have h := h σ4 e3
  have v := v σ4 e3
  intro σ6 e4
  have h := h σ6 e4
  have v := v σ6 e4
  refine ⟨h.1, ?_⟩
  have v := v h.1
  have h := h.2
  intro p9 e6 e7
  have h := h p9 e6 e7
  have v := v p9 e6 e7
  intro σ12 e8
  have h := h σ12 e8
  have v := v σ12 e8
  refine jcJx4a65c_init_da8c8 ?_ _ _ h v
  intro σ14 h v
  refine ⟨h.1, ?_⟩
  have v := v h.1
  have h := h.2
  intro σ16 e10
  have h := h σ16 e10
  have v := v σ16 e10
  exact hQ _ h v
set_option maxRecDepth 100000 in
set_option maxHeartbeats 4000000 in
theorem jaX8_init {Q Q' : kx_S → Prop} (hQ : ∀ y0, Q y0 → Q' y0) : ∀ (l0 : Nat) (l1 : Int32) (l2 : Option Nat) (l3 : Int32) (σ : kx_S), wX8_init l0 l1 l2 l3 σ Q → vX8_init l0 l1 l2 l3 σ Q' := by
  intro l0 l1 l2 l3 σ h
  unfold wX8_init at h
  unfold vX8_init
  intro e1
  have h := h.2
  intro σ2 e2
  have h := h σ2 e2
  intro σ4 e3
  have h := h σ4 e3
  intro σ6 e4
  have h := h σ6 e4
  intro e5
  have h := h.2
  intro p9 e6 e7
  have h := h p9 e6 e7
  intro σ12 e8
  have h := h σ12 e8
  refine jaJx4a65c_init_da8c8 ?_ _ _ h
  intro σ14 h
  intro e9
  have h := h.2
  intro σ16 e10
  have h := h σ16 e10
  exact hQ _ h
set_option maxRecDepth 100000 in
set_option maxHeartbeats 4000000 in
theorem jfX8_init {I : kx_S → Prop} (W : fw_ I [16, 17, 160, 161, 162, 163, 1101]) {Q : kx_S → Prop} (hQ : ∀ y0, I y0 → Q y0) : ∀ (l0 : Nat) (l1 : Int32) (l2 : Option Nat) (l3 : Int32) (σ : kx_S), I σ → vX8_init l0 l1 l2 l3 σ Q := by
  intro l0 l1 l2 l3 σ i
  unfold vX8_init
  intro e1
  intro σ2 e2
  have iσ2 : I σ2 := by rw [e2]; exact ((W _ i).1 160 (by decide)).1 _ _
  intro σ4 e3
  have iσ4 : I σ4 := by rw [e3]; exact ((W _ iσ2).1 161 (by decide)).2.1 _ _
  intro σ6 e4
  have iσ6 : I σ6 := by rw [e4]; exact ((W _ iσ4).1 162 (by decide)).1 _ _
  intro e5
  intro p9 e6 e7
  intro σ12 e8
  have iσ12 : I σ12 := by rw [e8]; exact (W _ iσ6).2.2.2.2.2.2.1 1 (by decide) _ e6
  refine jfJx4a65c_init_da8c8 (I := I) (fw_sub W (by decide)) ?_ _ _ iσ12
  intro σ14 iσ14
  intro e9
  intro σ16 e10
  have iσ16 : I σ16 := by rw [e10]; exact ((W _ iσ14).1 163 (by decide)).2.1 _ _
  exact hQ _ iσ16
def vX8_passWater (l0 : Nat) (σ : kx_S) (Q : kx_S → Prop) : Prop := xt σ l0 = 10 → ((¬ (xi σ 165 l0) = 0 → ∀ σ3, σ3 = xsi σ 167 l0 ((xi σ 167 l0) + (xi σ 169 l0)) → ∀ v5, v5 = (if ((xi σ3 167 l0) - (xi σ3 166 l0)) < 0 then 0 else ((xi σ3 167 l0) - (xi σ3 166 l0))) → ∀ v6, v6 = (if ((xi σ3 167 l0) - v5) < (xi σ3 168 l0) then ((xi σ3 167 l0) - v5) else (xi σ3 168 l0)) → ∀ σ7, σ7 = xsi σ3 170 l0 (v5 + v6) → ∀ σ9, σ9 = xsi σ7 167 l0 ((xi σ7 167 l0) - (xi σ7 170 l0)) → Q σ9) ∧ ((xi σ 165 l0) = 0 → ∀ σ11, σ11 = xsi σ 170 l0 (xi σ 169 l0) → Q σ11))
set_option maxRecDepth 100000 in
set_option maxHeartbeats 4000000 in
theorem jcX8_passWater {Q Q' Q'' : kx_S → Prop} (hQ : ∀ y0, Q y0 → Q' y0 → Q'' y0) : ∀ (l0 : Nat) (σ : kx_S), wX8_passWater l0 σ Q → vX8_passWater l0 σ Q' → wX8_passWater l0 σ Q'' := by
  intro l0 σ h v
  unfold wX8_passWater at h
  unfold vX8_passWater at v
  unfold wX8_passWater
  refine ⟨h.1, ?_⟩
  have v := v h.1
  have h := h.2
  refine ⟨?_, ?_⟩
  · have h := h.1
    have v := v.1
    intro e2
    have h := h e2
    have v := v e2
    intro σ3 e3
    have h := h σ3 e3
    have v := v σ3 e3
    intro v5 e4
    have h := h v5 e4
    have v := v v5 e4
    intro v6 e5
    have h := h v6 e5
    have v := v v6 e5
    intro σ7 e6
    have h := h σ7 e6
    have v := v σ7 e6
    intro σ9 e7
    have h := h σ9 e7
    have v := v σ9 e7
    exact hQ _ h v
  · have h := h.2
    have v := v.2
    intro e8
    have h := h e8
    have v := v e8
    intro σ11 e9
    have h := h σ11 e9
    have v := v σ11 e9
    exact hQ _ h v
set_option maxRecDepth 100000 in
set_option maxHeartbeats 4000000 in
theorem jaX8_passWater {Q Q' : kx_S → Prop} (hQ : ∀ y0, Q y0 → Q' y0) : ∀ (l0 : Nat) (σ : kx_S), wX8_passWater l0 σ Q → vX8_passWater l0 σ Q' := by
  intro l0 σ h
  unfold wX8_passWater at h
  unfold vX8_passWater
  intro e1
  have h := h.2
  refine ⟨?_, ?_⟩
  · have h := h.1
    intro e2
    have h := h e2
    intro σ3 e3
    have h := h σ3 e3
    intro v5 e4
    have h := h v5 e4
    intro v6 e5
    have h := h v6 e5
    intro σ7 e6
    have h := h σ7 e6
    intro σ9 e7
    have h := h σ9 e7
    exact hQ _ h
  · have h := h.2
    intro e8
    have h := h e8
    intro σ11 e9
    have h := h σ11 e9
    exact hQ _ h
set_option maxRecDepth 100000 in
set_option maxHeartbeats 4000000 in
theorem jfX8_passWater {I : kx_S → Prop} (W : fw_ I [167, 170]) {Q : kx_S → Prop} (hQ : ∀ y0, I y0 → Q y0) : ∀ (l0 : Nat) (σ : kx_S), I σ → vX8_passWater l0 σ Q := by
  intro l0 σ i
  unfold vX8_passWater
  intro e1
  refine ⟨?_, ?_⟩
  · intro e2
    intro σ3 e3
    have iσ3 : I σ3 := by rw [e3]; exact ((W _ i).1 167 (by decide)).1 _ _
    intro v5 e4
    intro v6 e5
    intro σ7 e6
    have iσ7 : I σ7 := by rw [e6]; exact ((W _ iσ3).1 170 (by decide)).1 _ _
    intro σ9 e7
    have iσ9 : I σ9 := by rw [e7]; exact ((W _ iσ7).1 167 (by decide)).1 _ _
    exact hQ _ iσ9
  · intro e8
    intro σ11 e9
    have iσ11 : I σ11 := by rw [e9]; exact ((W _ i).1 170 (by decide)).1 _ _
    exact hQ _ iσ11
def vX8_canTake (l0 : Nat) (l1 : Int32) (σ : kx_S) (Q : Int32 → kx_S → Prop) : Prop := ((l1 < 0 → Q 0 σ) ∧ (¬ (l1 < 0) → xt σ l0 = 10 → ∀ a3, xr σ 163 l0 = some a3 → xt σ a3 = 1 → vJx4a65c_size_8abf5 a3 σ (fun r6 σ5 => ((l1 < r6 → xt σ5 l0 = 10 → ∀ a10, xr σ5 163 l0 = some a10 → xt σ5 a10 = 1 → vJx4a65c_get_915e3 a10 l1 σ5 (fun q13 σ12 => ∀ a15, q13 = some a15 → xt σ12 a15 = 3 → ((¬ (xi σ12 50 a15) = 0 → Q 0 σ12) ∧ ((xi σ12 50 a15) = 0 → ∀ a19, xr σ12 49 a15 = some a19 → xt σ12 a19 = 1 → vJx4a65c_size_8abf5 a19 σ12 (fun r22 σ21 => xt σ21 a15 = 3 → (((xi σ21 48 a15) ≤ r22 → Q 0 σ21) ∧ (¬ ((xi σ21 48 a15) ≤ r22) → Q 1 σ21))))))) ∧ (¬ (l1 < r6) → Q 0 σ5)))))
set_option maxRecDepth 100000 in
set_option maxHeartbeats 4000000 in
theorem jcX8_canTake {Q Q' Q'' : Int32 → kx_S → Prop} (hQ : ∀ y0 y1, Q y0 y1 → Q' y0 y1 → Q'' y0 y1) : ∀ (l0 : Nat) (l1 : Int32) (σ : kx_S), wX8_canTake l0 l1 σ Q → vX8_canTake l0 l1 σ Q' → wX8_canTake l0 l1 σ Q'' := by
  intro l0 l1 σ h v
  unfold wX8_canTake at h
  unfold vX8_canTake at v
  unfold wX8_canTake
  refine ⟨?_, ?_⟩
  · have h := h.1
    have v := v.1
    intro e1
    have h := h e1
    have v := v e1
    exact hQ _ _ h v
  · have h := h.2
    have v := v.2
    intro e2
    have h := h e2
    have v := v e2
    refine ⟨h.1, ?_⟩
    have v := v h.1
    have h := h.2
    obtain ⟨a3, e4, h⟩ := h
    refine ⟨a3, e4, ?_⟩
    have v := v a3 e4
    refine ⟨h.1, ?_⟩
    have v := v h.1
    have h := h.2
    refine jcJx4a65c_size_8abf5 ?_ _ _ h v
    intro r6 σ5 h v
    refine ⟨?_, ?_⟩
    · have h := h.1
      have v := v.1
      intro e6
      have h := h e6
      have v := v e6
      refine ⟨h.1, ?_⟩
      have v := v h.1
      have h := h.2
      obtain ⟨a10, e8, h⟩ := h
      refine ⟨a10, e8, ?_⟩
      have v := v a10 e8
      refine ⟨h.1, ?_⟩
      have v := v h.1
      have h := h.2
      refine jcJx4a65c_get_915e3 ?_ _ _ _ h v
      intro q13 σ12 h v
      obtain ⟨a15, e10, h⟩ := h
      refine ⟨a15, e10, ?_⟩
      have v := v a15 e10
      refine ⟨h.1, ?_⟩
      have v := v h.1
      have h := h.2
      refine ⟨?_, ?_⟩
      · have h := h.1
        have v := v.1
        intro e12
        have h := h e12
        have v := v e12
        exact hQ _ _ h v
      · have h := h.2
        have v := v.2
        intro e13
        have h := h e13
        have v := v e13
        obtain ⟨a19, e14, h⟩ := h
        refine ⟨a19, e14, ?_⟩
        have v := v a19 e14
        refine ⟨h.1, ?_⟩
        have v := v h.1
        have h := h.2
        refine jcJx4a65c_size_8abf5 ?_ _ _ h v
        intro r22 σ21 h v
        refine ⟨h.1, ?_⟩
        have v := v h.1
        have h := h.2
        refine ⟨?_, ?_⟩
        · have h := h.1
          have v := v.1
          intro e17
          have h := h e17
          have v := v e17
          exact hQ _ _ h v
        · have h := h.2
          have v := v.2
          intro e18
          have h := h e18
          have v := v e18
          exact hQ _ _ h v
    · have h := h.2
      have v := v.2
      intro e19
      have h := h e19
      have v := v e19
      exact hQ _ _ h v
set_option maxRecDepth 100000 in
set_option maxHeartbeats 4000000 in
theorem jaX8_canTake {Q Q' : Int32 → kx_S → Prop} (hQ : ∀ y0 y1, Q y0 y1 → Q' y0 y1) : ∀ (l0 : Nat) (l1 : Int32) (σ : kx_S), wX8_canTake l0 l1 σ Q → vX8_canTake l0 l1 σ Q' := by
  intro l0 l1 σ h
  unfold wX8_canTake at h
  unfold vX8_canTake
  refine ⟨?_, ?_⟩
  · have h := h.1
    intro e1
    have h := h e1
    exact hQ _ _ h
  · have h := h.2
    intro e2
    have h := h e2
    intro e3
    have h := h.2
    obtain ⟨a3', e4, h⟩ := h
    intro a3 e5
    have x9 : a3' = a3 := Option.some.inj (e4.symm.trans e5)
    rw [x9] at h
    intro e6
    have h := h.2
    refine jaJx4a65c_size_8abf5 ?_ _ _ h
    intro r6 σ5 h
    refine ⟨?_, ?_⟩
    · have h := h.1
      intro e7
      have h := h e7
      intro e8
      have h := h.2
      obtain ⟨a10', e9, h⟩ := h
      intro a10 e10
      have x9 : a10' = a10 := Option.some.inj (e9.symm.trans e10)
      rw [x9] at h
      intro e11
      have h := h.2
      refine jaJx4a65c_get_915e3 ?_ _ _ _ h
      intro q13 σ12 h
      obtain ⟨a15', e12, h⟩ := h
      intro a15 e13
      have x9 : a15' = a15 := Option.some.inj (e12.symm.trans e13)
      rw [x9] at h
      intro e14
      have h := h.2
      refine ⟨?_, ?_⟩
      · have h := h.1
        intro e15
        have h := h e15
        exact hQ _ _ h
      · have h := h.2
        intro e16
        have h := h e16
        obtain ⟨a19', e17, h⟩ := h
        intro a19 e18
        have x9 : a19' = a19 := Option.some.inj (e17.symm.trans e18)
        rw [x9] at h
        intro e19
        have h := h.2
        refine jaJx4a65c_size_8abf5 ?_ _ _ h
        intro r22 σ21 h
        intro e20
        have h := h.2
        refine ⟨?_, ?_⟩
        · have h := h.1
          intro e21
          have h := h e21
          exact hQ _ _ h
        · have h := h.2
          intro e22
          have h := h e22
          exact hQ _ _ h
    · have h := h.2
      intro e23
      have h := h e23
      exact hQ _ _ h
set_option maxRecDepth 100000 in
set_option maxHeartbeats 4000000 in
theorem jfX8_canTake {I : kx_S → Prop} (W : fw_ I []) {Q : Int32 → kx_S → Prop} (hQ : ∀ y0 y1, I y1 → Q y0 y1) : ∀ (l0 : Nat) (l1 : Int32) (σ : kx_S), I σ → vX8_canTake l0 l1 σ Q := by
  intro l0 l1 σ i
  unfold vX8_canTake
  refine ⟨?_, ?_⟩
  · intro e1
    exact hQ _ _ i
  · intro e2
    intro e3
    intro a3 e4
    intro e5
    refine jfJx4a65c_size_8abf5 (I := I) (fw_sub W (by decide)) ?_ _ _ i
    intro r6 σ5 iσ5
    refine ⟨?_, ?_⟩
    · intro e6
      intro e7
      intro a10 e8
      intro e9
      refine jfJx4a65c_get_915e3 (I := I) (fw_sub W (by decide)) ?_ _ _ _ iσ5
      intro q13 σ12 iσ12
      intro a15 e10
      intro e11
      refine ⟨?_, ?_⟩
      · intro e12
        exact hQ _ _ iσ12
      · intro e13
        intro a19 e14
        intro e15
        refine jfJx4a65c_size_8abf5 (I := I) (fw_sub W (by decide)) ?_ _ _ iσ12
        intro r22 σ21 iσ21
        intro e16
        refine ⟨?_, ?_⟩
        · intro e17
          exact hQ _ _ iσ21
        · intro e18
          exact hQ _ _ iσ21
    · intro e19
      exact hQ _ _ iσ5
def vX8_takes (l0 : Nat) (l1 : Nat) (l2 : Int32) (σ : kx_S) (Q : Int32 → kx_S → Prop) : Prop := xt σ l0 = 10 → vX8_canTake l0 l2 σ (fun r2 σ1 => ((¬ r2 = 0 → xt σ1 l0 = 10 → ∀ a6, xr σ1 163 l0 = some a6 → xt σ1 a6 = 1 → vJx4a65c_get_915e3 a6 l2 σ1 (fun q9 σ8 => ∀ a11, q9 = some a11 → xt σ8 a11 = 3 → ∀ a14, xr σ8 49 a11 = some a14 → xt σ8 a14 = 1 → vJx4a65c_add_9ea2d a14 l1 σ8 (fun r17 σ16 => xt σ16 l0 = 10 → xt σ16 l1 = 8 → vX6_floatIn l1 (xi σ16 160 l0) l2 σ16 (fun σ20 => Q 1 σ20)))) ∧ (r2 = 0 → Q 0 σ1)))
set_option maxRecDepth 100000 in
set_option maxHeartbeats 4000000 in
theorem jcX8_takes {Q Q' Q'' : Int32 → kx_S → Prop} (hQ : ∀ y0 y1, Q y0 y1 → Q' y0 y1 → Q'' y0 y1) : ∀ (l0 : Nat) (l1 : Nat) (l2 : Int32) (σ : kx_S), wX8_takes l0 l1 l2 σ Q → vX8_takes l0 l1 l2 σ Q' → wX8_takes l0 l1 l2 σ Q'' := by
  intro l0 l1 l2 σ h v
  unfold wX8_takes at h
  unfold vX8_takes at v
  unfold wX8_takes
  refine ⟨h.1, ?_⟩
  have v := v h.1
  have h := h.2
  refine jcX8_canTake ?_ _ _ _ h v
  intro r2 σ1 h v
  refine ⟨?_, ?_⟩
  · have h := h.1
    have v := v.1
    intro e2
    have h := h e2
    have v := v e2
    refine ⟨h.1, ?_⟩
    have v := v h.1
    have h := h.2
    obtain ⟨a6, e4, h⟩ := h
    refine ⟨a6, e4, ?_⟩
    have v := v a6 e4
    refine ⟨h.1, ?_⟩
    have v := v h.1
    have h := h.2
    refine jcJx4a65c_get_915e3 ?_ _ _ _ h v
    intro q9 σ8 h v
    obtain ⟨a11, e6, h⟩ := h
    refine ⟨a11, e6, ?_⟩
    have v := v a11 e6
    refine ⟨h.1, ?_⟩
    have v := v h.1
    have h := h.2
    obtain ⟨a14, e8, h⟩ := h
    refine ⟨a14, e8, ?_⟩
    have v := v a14 e8
    refine ⟨h.1, ?_⟩
    have v := v h.1
    have h := h.2
    refine jcJx4a65c_add_9ea2d ?_ _ _ _ h v
    intro r17 σ16 h v
    refine ⟨h.1, ?_⟩
    have v := v h.1
    have h := h.2
    refine ⟨h.1, ?_⟩
    have v := v h.1
    have h := h.2
    refine jcX6_floatIn ?_ _ _ _ _ h v
    intro σ20 h v
    exact hQ _ _ h v
  · have h := h.2
    have v := v.2
    intro e12
    have h := h e12
    have v := v e12
    exact hQ _ _ h v
set_option maxRecDepth 100000 in
set_option maxHeartbeats 4000000 in
theorem jaX8_takes {Q Q' : Int32 → kx_S → Prop} (hQ : ∀ y0 y1, Q y0 y1 → Q' y0 y1) : ∀ (l0 : Nat) (l1 : Nat) (l2 : Int32) (σ : kx_S), wX8_takes l0 l1 l2 σ Q → vX8_takes l0 l1 l2 σ Q' := by
  intro l0 l1 l2 σ h
  unfold wX8_takes at h
  unfold vX8_takes
  intro e1
  have h := h.2
  refine jaX8_canTake ?_ _ _ _ h
  intro r2 σ1 h
  refine ⟨?_, ?_⟩
  · have h := h.1
    intro e2
    have h := h e2
    intro e3
    have h := h.2
    obtain ⟨a6', e4, h⟩ := h
    intro a6 e5
    have x9 : a6' = a6 := Option.some.inj (e4.symm.trans e5)
    rw [x9] at h
    intro e6
    have h := h.2
    refine jaJx4a65c_get_915e3 ?_ _ _ _ h
    intro q9 σ8 h
    obtain ⟨a11', e7, h⟩ := h
    intro a11 e8
    have x9 : a11' = a11 := Option.some.inj (e7.symm.trans e8)
    rw [x9] at h
    intro e9
    have h := h.2
    obtain ⟨a14', e10, h⟩ := h
    intro a14 e11
    have x9 : a14' = a14 := Option.some.inj (e10.symm.trans e11)
    rw [x9] at h
    intro e12
    have h := h.2
    refine jaJx4a65c_add_9ea2d ?_ _ _ _ h
    intro r17 σ16 h
    intro e13
    have h := h.2
    intro e14
    have h := h.2
    refine jaX6_floatIn ?_ _ _ _ _ h
    intro σ20 h
    exact hQ _ _ h
  · have h := h.2
    intro e15
    have h := h e15
    exact hQ _ _ h
set_option maxRecDepth 100000 in
set_option maxHeartbeats 4000000 in
theorem jfX8_takes {I : kx_S → Prop} (W : fw_ I [16, 17, 18, 132, 133, 134, 1003, 1222]) {Q : Int32 → kx_S → Prop} (hQ : ∀ y0 y1, I y1 → Q y0 y1) : ∀ (l0 : Nat) (l1 : Nat) (l2 : Int32) (σ : kx_S), I σ → vX8_takes l0 l1 l2 σ Q := by
  intro l0 l1 l2 σ i
  unfold vX8_takes
  intro e1
  refine jfX8_canTake (I := I) (fw_sub W (by decide)) ?_ _ _ _ i
  intro r2 σ1 iσ1
  refine ⟨?_, ?_⟩
  · intro e2
    intro e3
    intro a6 e4
    intro e5
    refine jfJx4a65c_get_915e3 (I := I) (fw_sub W (by decide)) ?_ _ _ _ iσ1
    intro q9 σ8 iσ8
    intro a11 e6
    intro e7
    intro a14 e8
    intro e9
    refine jfJx4a65c_add_9ea2d (I := I) (fw_sub W (by decide)) ?_ _ _ _ iσ8
    intro r17 σ16 iσ16
    intro e10
    intro e11
    refine jfX6_floatIn (I := I) (fw_sub W (by decide)) ?_ _ _ _ _ iσ16
    intro σ20 iσ20
    exact hQ _ _ iσ20
  · intro e12
    exact hQ _ _ iσ1
def vX8_jamFullCells_50 (k2 : Nat → Int32 → kx_S → Prop) (Q : kx_S → Prop) (l0 : Nat) (l1 : Int32) (σ : kx_S) : Prop := ∀ v1 : Int32, v1 = l1 + 1 → k2 l0 v1 σ
set_option maxRecDepth 100000 in
set_option maxHeartbeats 4000000 in
theorem jcX8_jamFullCells_50 {k2 k2' k2'' : Nat → Int32 → kx_S → Prop} (hk2 : ∀ y0 y1 y2, k2 y0 y1 y2 → k2' y0 y1 y2 → k2'' y0 y1 y2) {Q Q' Q'' : kx_S → Prop} (hQ : ∀ y0, Q y0 → Q' y0 → Q'' y0) : ∀ (l0 : Nat) (l1 : Int32) (σ : kx_S), wX8_jamFullCells_50 k2 Q l0 l1 σ → vX8_jamFullCells_50 k2' Q' l0 l1 σ → wX8_jamFullCells_50 k2'' Q'' l0 l1 σ := by
  intro l0 l1 σ h v
  unfold wX8_jamFullCells_50 at h
  unfold vX8_jamFullCells_50 at v
  unfold wX8_jamFullCells_50
  intro v1 e1
  have h := h v1 e1
  have v := v v1 e1
  exact hk2 _ _ _ h v
set_option maxRecDepth 100000 in
set_option maxHeartbeats 4000000 in
theorem jaX8_jamFullCells_50 {k2 k2' : Nat → Int32 → kx_S → Prop} (hk2 : ∀ y0 y1 y2, k2 y0 y1 y2 → k2' y0 y1 y2) {Q Q' : kx_S → Prop} (hQ : ∀ y0, Q y0 → Q' y0) : ∀ (l0 : Nat) (l1 : Int32) (σ : kx_S), wX8_jamFullCells_50 k2 Q l0 l1 σ → vX8_jamFullCells_50 k2' Q' l0 l1 σ := by
  intro l0 l1 σ h
  unfold wX8_jamFullCells_50 at h
  unfold vX8_jamFullCells_50
  intro v1 e1
  have h := h v1 e1
  exact hk2 _ _ _ h
set_option maxRecDepth 100000 in
set_option maxHeartbeats 4000000 in
theorem jfX8_jamFullCells_50 {I : kx_S → Prop} (W : fw_ I []) {k2 : Nat → Int32 → kx_S → Prop} (hk2 : ∀ y0 y1 y2, I y2 → k2 y0 y1 y2) {Q : kx_S → Prop} (hQ : ∀ y0, I y0 → Q y0) : ∀ (l0 : Nat) (l1 : Int32) (σ : kx_S), I σ → vX8_jamFullCells_50 k2 Q l0 l1 σ := by
  intro l0 l1 σ i
  unfold vX8_jamFullCells_50
  intro v1 e1
  exact hk2 _ _ _ i
def vX8_jamFullCells_2 (Q : kx_S → Prop) : Nat → Nat → Int32 → kx_S → Prop
  | 0, _, _, _ => True
  | n + 1, l0, l1, σ => xt σ l0 = 10 → ∀ a3, xr σ 163 l0 = some a3 → xt σ a3 = 1 → vJx4a65c_size_8abf5 a3 σ (fun r6 σ5 => ((r6 ≤ l1 → Q σ5) ∧ (¬ (r6 ≤ l1) → xt σ5 l0 = 10 → ∀ a10, xr σ5 163 l0 = some a10 → xt σ5 a10 = 1 → vJx4a65c_get_915e3 a10 l1 σ5 (fun q13 σ12 => ∀ a15, q13 = some a15 → xt σ12 a15 = 3 → ∀ a18, xr σ12 49 a15 = some a18 → xt σ12 a18 = 1 → vJx4a65c_size_8abf5 a18 σ12 (fun r21 σ20 => xt σ20 a15 = 3 → ((r21 < (xi σ20 48 a15) → vX8_jamFullCells_50 (vX8_jamFullCells_2 Q n) Q l0 l1 σ20) ∧ (¬ (r21 < (xi σ20 48 a15)) → ∀ σ25, σ25 = xsi σ20 50 a15 1 → vX8_jamFullCells_50 (vX8_jamFullCells_2 Q n) Q l0 l1 σ25)))))))
set_option maxRecDepth 100000 in
set_option maxHeartbeats 4000000 in
theorem jcX8_jamFullCells_2 {Q Q' Q'' : kx_S → Prop} (hQ : ∀ y0, Q y0 → Q' y0 → Q'' y0) : ∀ (n : Nat) (l0 : Nat) (l1 : Int32) (σ : kx_S), wX8_jamFullCells_2 Q n l0 l1 σ → vX8_jamFullCells_2 Q' n l0 l1 σ → wX8_jamFullCells_2 Q'' n l0 l1 σ := by
  intro n
  induction n with
  | zero => intro l0 l1 σ h; exact h.elim
  | succ n ih =>
    intro l0 l1 σ h v
    unfold wX8_jamFullCells_2 at h
    unfold vX8_jamFullCells_2 at v
    unfold wX8_jamFullCells_2
    refine ⟨h.1, ?_⟩
    have v := v h.1
    have h := h.2
    obtain ⟨a3, e2, h⟩ := h
    refine ⟨a3, e2, ?_⟩
    have v := v a3 e2
    refine ⟨h.1, ?_⟩
    have v := v h.1
    have h := h.2
    refine jcJx4a65c_size_8abf5 ?_ _ _ h v
    intro r6 σ5 h v
    refine ⟨?_, ?_⟩
    · have h := h.1
      have v := v.1
      intro e4
      have h := h e4
      have v := v e4
      exact hQ _ h v
    · have h := h.2
      have v := v.2
      intro e5
      have h := h e5
      have v := v e5
      refine ⟨h.1, ?_⟩
      have v := v h.1
      have h := h.2
      obtain ⟨a10, e7, h⟩ := h
      refine ⟨a10, e7, ?_⟩
      have v := v a10 e7
      refine ⟨h.1, ?_⟩
      have v := v h.1
      have h := h.2
      refine jcJx4a65c_get_915e3 ?_ _ _ _ h v
      intro q13 σ12 h v
      obtain ⟨a15, e9, h⟩ := h
      refine ⟨a15, e9, ?_⟩
      have v := v a15 e9
      refine ⟨h.1, ?_⟩
      have v := v h.1
      have h := h.2
      obtain ⟨a18, e11, h⟩ := h
      refine ⟨a18, e11, ?_⟩
      have v := v a18 e11
      refine ⟨h.1, ?_⟩
      have v := v h.1
      have h := h.2
      refine jcJx4a65c_size_8abf5 ?_ _ _ h v
      intro r21 σ20 h v
      refine ⟨h.1, ?_⟩
      have v := v h.1
      have h := h.2
      refine ⟨?_, ?_⟩
      · have h := h.1
        have v := v.1
        intro e14
        have h := h e14
        have v := v e14
        exact jcX8_jamFullCells_50 (k2 := wX8_jamFullCells_2 Q n) (k2' := vX8_jamFullCells_2 Q' n) (k2'' := wX8_jamFullCells_2 Q'' n) (fun _ _ _ h v => ih _ _ _ h v) hQ _ _ _ h v
      · have h := h.2
        have v := v.2
        intro e15
        have h := h e15
        have v := v e15
        intro σ25 e16
        have h := h σ25 e16
        have v := v σ25 e16
        exact jcX8_jamFullCells_50 (k2 := wX8_jamFullCells_2 Q n) (k2' := vX8_jamFullCells_2 Q' n) (k2'' := wX8_jamFullCells_2 Q'' n) (fun _ _ _ h v => ih _ _ _ h v) hQ _ _ _ h v
set_option maxRecDepth 100000 in
set_option maxHeartbeats 4000000 in
theorem jaX8_jamFullCells_2 {Q Q' : kx_S → Prop} (hQ : ∀ y0, Q y0 → Q' y0) : ∀ (n m : Nat) (l0 : Nat) (l1 : Int32) (σ : kx_S), wX8_jamFullCells_2 Q n l0 l1 σ → vX8_jamFullCells_2 Q' m l0 l1 σ := by
  intro n
  induction n with
  | zero => intro m l0 l1 σ h; exact h.elim
  | succ n ih =>
    intro m l0 l1 σ h
    cases m with
    | zero => exact trivial
    | succ m =>
      unfold wX8_jamFullCells_2 at h
      unfold vX8_jamFullCells_2
      intro e1
      have h := h.2
      obtain ⟨a3', e2, h⟩ := h
      intro a3 e3
      have x9 : a3' = a3 := Option.some.inj (e2.symm.trans e3)
      rw [x9] at h
      intro e4
      have h := h.2
      refine jaJx4a65c_size_8abf5 ?_ _ _ h
      intro r6 σ5 h
      refine ⟨?_, ?_⟩
      · have h := h.1
        intro e5
        have h := h e5
        exact hQ _ h
      · have h := h.2
        intro e6
        have h := h e6
        intro e7
        have h := h.2
        obtain ⟨a10', e8, h⟩ := h
        intro a10 e9
        have x9 : a10' = a10 := Option.some.inj (e8.symm.trans e9)
        rw [x9] at h
        intro e10
        have h := h.2
        refine jaJx4a65c_get_915e3 ?_ _ _ _ h
        intro q13 σ12 h
        obtain ⟨a15', e11, h⟩ := h
        intro a15 e12
        have x9 : a15' = a15 := Option.some.inj (e11.symm.trans e12)
        rw [x9] at h
        intro e13
        have h := h.2
        obtain ⟨a18', e14, h⟩ := h
        intro a18 e15
        have x9 : a18' = a18 := Option.some.inj (e14.symm.trans e15)
        rw [x9] at h
        intro e16
        have h := h.2
        refine jaJx4a65c_size_8abf5 ?_ _ _ h
        intro r21 σ20 h
        intro e17
        have h := h.2
        refine ⟨?_, ?_⟩
        · have h := h.1
          intro e18
          have h := h e18
          exact jaX8_jamFullCells_50 (k2 := wX8_jamFullCells_2 Q n) (k2' := vX8_jamFullCells_2 Q' m) (fun _ _ _ h => ih m _ _ _ h) hQ _ _ _ h
        · have h := h.2
          intro e19
          have h := h e19
          intro σ25 e20
          have h := h σ25 e20
          exact jaX8_jamFullCells_50 (k2 := wX8_jamFullCells_2 Q n) (k2' := vX8_jamFullCells_2 Q' m) (fun _ _ _ h => ih m _ _ _ h) hQ _ _ _ h
set_option maxRecDepth 100000 in
set_option maxHeartbeats 4000000 in
theorem jfX8_jamFullCells_2 {I : kx_S → Prop} (W : fw_ I [50]) {Q : kx_S → Prop} (hQ : ∀ y0, I y0 → Q y0) : ∀ (n : Nat) (l0 : Nat) (l1 : Int32) (σ : kx_S), I σ → vX8_jamFullCells_2 Q n l0 l1 σ := by
  intro n
  induction n with
  | zero => intro l0 l1 σ i; exact trivial
  | succ n ih =>
    intro l0 l1 σ i
    unfold vX8_jamFullCells_2
    intro e1
    intro a3 e2
    intro e3
    refine jfJx4a65c_size_8abf5 (I := I) (fw_sub W (by decide)) ?_ _ _ i
    intro r6 σ5 iσ5
    refine ⟨?_, ?_⟩
    · intro e4
      exact hQ _ iσ5
    · intro e5
      intro e6
      intro a10 e7
      intro e8
      refine jfJx4a65c_get_915e3 (I := I) (fw_sub W (by decide)) ?_ _ _ _ iσ5
      intro q13 σ12 iσ12
      intro a15 e9
      intro e10
      intro a18 e11
      intro e12
      refine jfJx4a65c_size_8abf5 (I := I) (fw_sub W (by decide)) ?_ _ _ iσ12
      intro r21 σ20 iσ20
      intro e13
      refine ⟨?_, ?_⟩
      · intro e14
        exact jfX8_jamFullCells_50 (I := I) (fw_sub W (by decide)) (k2 := vX8_jamFullCells_2 Q n) (fun _ _ _ i => ih _ _ _ i) hQ _ _ _ iσ20
      · intro e15
        intro σ25 e16
        have iσ25 : I σ25 := by rw [e16]; exact ((W _ iσ20).1 50 (by decide)).1 _ _
        exact jfX8_jamFullCells_50 (I := I) (fw_sub W (by decide)) (k2 := vX8_jamFullCells_2 Q n) (fun _ _ _ i => ih _ _ _ i) hQ _ _ _ iσ25
end
section
def vX8_jamFullCells (l0 : Nat) (σ : kx_S) (Q : kx_S → Prop) : Prop := ∀ j, vX8_jamFullCells_2 Q j l0 0 σ
set_option maxRecDepth 100000 in
set_option maxHeartbeats 4000000 in
theorem jcX8_jamFullCells {Q Q' Q'' : kx_S → Prop} (hQ : ∀ y0, Q y0 → Q' y0 → Q'' y0) : ∀ (l0 : Nat) (σ : kx_S), wX8_jamFullCells l0 σ Q → vX8_jamFullCells l0 σ Q' → wX8_jamFullCells l0 σ Q'' := by
  intro l0 σ h v
  unfold wX8_jamFullCells at h
  unfold vX8_jamFullCells at v
  unfold wX8_jamFullCells
  obtain ⟨j, h⟩ := h
  refine ⟨j, ?_⟩
  have v := v j
  exact jcX8_jamFullCells_2 hQ _ _ _ _ h v
set_option maxRecDepth 100000 in
set_option maxHeartbeats 4000000 in
theorem jaX8_jamFullCells {Q Q' : kx_S → Prop} (hQ : ∀ y0, Q y0 → Q' y0) : ∀ (l0 : Nat) (σ : kx_S), wX8_jamFullCells l0 σ Q → vX8_jamFullCells l0 σ Q' := by
  intro l0 σ h
  unfold wX8_jamFullCells at h
  unfold vX8_jamFullCells
  obtain ⟨j, h⟩ := h
  intro j9
  exact jaX8_jamFullCells_2 hQ _ j9 _ _ _ h
set_option maxRecDepth 100000 in
set_option maxHeartbeats 4000000 in
theorem jfX8_jamFullCells {I : kx_S → Prop} (W : fw_ I [50]) {Q : kx_S → Prop} (hQ : ∀ y0, I y0 → Q y0) : ∀ (l0 : Nat) (σ : kx_S), I σ → vX8_jamFullCells l0 σ Q := by
  intro l0 σ i
  unfold vX8_jamFullCells
  intro j
  exact jfX8_jamFullCells_2 (I := I) (fw_sub W (by decide)) hQ _ _ _ _ i
def vX8_freesLowestJam_37 (Q : Int32 → kx_S → Prop) (l2 : Nat) (σ : kx_S) : Prop := xt σ l2 = 3 → ∀ σ2, σ2 = xsi σ 50 l2 0 → ∀ σ4, σ4 = xsi σ2 51 l2 0 → Q 1 σ4
set_option maxRecDepth 100000 in
set_option maxHeartbeats 4000000 in
theorem jcX8_freesLowestJam_37 {Q Q' Q'' : Int32 → kx_S → Prop} (hQ : ∀ y0 y1, Q y0 y1 → Q' y0 y1 → Q'' y0 y1) : ∀ (l2 : Nat) (σ : kx_S), wX8_freesLowestJam_37 Q l2 σ → vX8_freesLowestJam_37 Q' l2 σ → wX8_freesLowestJam_37 Q'' l2 σ := by
  intro l2 σ h v
  unfold wX8_freesLowestJam_37 at h
  unfold vX8_freesLowestJam_37 at v
  unfold wX8_freesLowestJam_37
  refine ⟨h.1, ?_⟩
  have v := v h.1
  have h := h.2
  intro σ2 e2
  have h := h σ2 e2
  have v := v σ2 e2
  intro σ4 e3
  have h := h σ4 e3
  have v := v σ4 e3
  exact hQ _ _ h v
set_option maxRecDepth 100000 in
set_option maxHeartbeats 4000000 in
theorem jaX8_freesLowestJam_37 {Q Q' : Int32 → kx_S → Prop} (hQ : ∀ y0 y1, Q y0 y1 → Q' y0 y1) : ∀ (l2 : Nat) (σ : kx_S), wX8_freesLowestJam_37 Q l2 σ → vX8_freesLowestJam_37 Q' l2 σ := by
  intro l2 σ h
  unfold wX8_freesLowestJam_37 at h
  unfold vX8_freesLowestJam_37
  intro e1
  have h := h.2
  intro σ2 e2
  have h := h σ2 e2
  intro σ4 e3
  have h := h σ4 e3
  exact hQ _ _ h
set_option maxRecDepth 100000 in
set_option maxHeartbeats 4000000 in
theorem jfX8_freesLowestJam_37 {I : kx_S → Prop} (W : fw_ I [50, 51]) {Q : Int32 → kx_S → Prop} (hQ : ∀ y0 y1, I y1 → Q y0 y1) : ∀ (l2 : Nat) (σ : kx_S), I σ → vX8_freesLowestJam_37 Q l2 σ := by
  intro l2 σ i
  unfold vX8_freesLowestJam_37
  intro e1
  intro σ2 e2
  have iσ2 : I σ2 := by rw [e2]; exact ((W _ i).1 50 (by decide)).1 _ _
  intro σ4 e3
  have iσ4 : I σ4 := by rw [e3]; exact ((W _ iσ2).1 51 (by decide)).1 _ _
  exact hQ _ _ iσ4
def vX8_freesLowestJam_12 (k37 : Nat → kx_S → Prop) (Q : Int32 → kx_S → Prop) : Nat → Nat → Int32 → kx_S → Prop
  | 0, _, _, _ => True
  | n + 1, l0, l1, σ => ((l1 < 0 → Q 0 σ) ∧ (¬ (l1 < 0) → xt σ l0 = 10 → ∀ a8, xr σ 163 l0 = some a8 → xt σ a8 = 1 → vJx4a65c_get_915e3 a8 l1 σ (fun q11 σ10 => ∀ a13, q11 = some a13 → xt σ10 a13 = 3 → (((xi σ10 50 a13) = 0 → ∀ v17 : Int32, v17 = l1 + (-1) → vX8_freesLowestJam_12 k37 Q n l0 v17 σ10) ∧ (¬ ((xi σ10 50 a13) = 0) → k37 a13 σ10)))))
set_option maxRecDepth 100000 in
set_option maxHeartbeats 4000000 in
theorem jcX8_freesLowestJam_12 {k37 k37' k37'' : Nat → kx_S → Prop} (hk37 : ∀ y0 y1, k37 y0 y1 → k37' y0 y1 → k37'' y0 y1) {Q Q' Q'' : Int32 → kx_S → Prop} (hQ : ∀ y0 y1, Q y0 y1 → Q' y0 y1 → Q'' y0 y1) : ∀ (n : Nat) (l0 : Nat) (l1 : Int32) (σ : kx_S), wX8_freesLowestJam_12 k37 Q n l0 l1 σ → vX8_freesLowestJam_12 k37' Q' n l0 l1 σ → wX8_freesLowestJam_12 k37'' Q'' n l0 l1 σ := by
  intro n
  induction n with
  | zero => intro l0 l1 σ h; exact h.elim
  | succ n ih =>
    intro l0 l1 σ h v
    unfold wX8_freesLowestJam_12 at h
    unfold vX8_freesLowestJam_12 at v
    unfold wX8_freesLowestJam_12
    refine ⟨?_, ?_⟩
    · have h := h.1
      have v := v.1
      intro e1
      have h := h e1
      have v := v e1
      exact hQ _ _ h v
    · have h := h.2
      have v := v.2
      intro e2
      have h := h e2
      have v := v e2
      refine ⟨h.1, ?_⟩
      have v := v h.1
      have h := h.2
      obtain ⟨a8, e4, h⟩ := h
      refine ⟨a8, e4, ?_⟩
      have v := v a8 e4
      refine ⟨h.1, ?_⟩
      have v := v h.1
      have h := h.2
      refine jcJx4a65c_get_915e3 ?_ _ _ _ h v
      intro q11 σ10 h v
      obtain ⟨a13, e6, h⟩ := h
      refine ⟨a13, e6, ?_⟩
      have v := v a13 e6
      refine ⟨h.1, ?_⟩
      have v := v h.1
      have h := h.2
      refine ⟨?_, ?_⟩
      · have h := h.1
        have v := v.1
        intro e8
        have h := h e8
        have v := v e8
        intro v17 e9
        have h := h v17 e9
        have v := v v17 e9
        exact ih _ _ _ h v
      · have h := h.2
        have v := v.2
        intro e10
        have h := h e10
        have v := v e10
        exact hk37 _ _ h v
set_option maxRecDepth 100000 in
set_option maxHeartbeats 4000000 in
theorem jaX8_freesLowestJam_12 {k37 k37' : Nat → kx_S → Prop} (hk37 : ∀ y0 y1, k37 y0 y1 → k37' y0 y1) {Q Q' : Int32 → kx_S → Prop} (hQ : ∀ y0 y1, Q y0 y1 → Q' y0 y1) : ∀ (n m : Nat) (l0 : Nat) (l1 : Int32) (σ : kx_S), wX8_freesLowestJam_12 k37 Q n l0 l1 σ → vX8_freesLowestJam_12 k37' Q' m l0 l1 σ := by
  intro n
  induction n with
  | zero => intro m l0 l1 σ h; exact h.elim
  | succ n ih =>
    intro m l0 l1 σ h
    cases m with
    | zero => exact trivial
    | succ m =>
      unfold wX8_freesLowestJam_12 at h
      unfold vX8_freesLowestJam_12
      refine ⟨?_, ?_⟩
      · have h := h.1
        intro e1
        have h := h e1
        exact hQ _ _ h
      · have h := h.2
        intro e2
        have h := h e2
        intro e3
        have h := h.2
        obtain ⟨a8', e4, h⟩ := h
        intro a8 e5
        have x9 : a8' = a8 := Option.some.inj (e4.symm.trans e5)
        rw [x9] at h
        intro e6
        have h := h.2
        refine jaJx4a65c_get_915e3 ?_ _ _ _ h
        intro q11 σ10 h
        obtain ⟨a13', e7, h⟩ := h
        intro a13 e8
        have x9 : a13' = a13 := Option.some.inj (e7.symm.trans e8)
        rw [x9] at h
        intro e9
        have h := h.2
        refine ⟨?_, ?_⟩
        · have h := h.1
          intro e10
          have h := h e10
          intro v17 e11
          have h := h v17 e11
          exact ih m _ _ _ h
        · have h := h.2
          intro e12
          have h := h e12
          exact hk37 _ _ h
set_option maxRecDepth 100000 in
set_option maxHeartbeats 4000000 in
theorem jfX8_freesLowestJam_12 {I : kx_S → Prop} (W : fw_ I []) {k37 : Nat → kx_S → Prop} (hk37 : ∀ y0 y1, I y1 → k37 y0 y1) {Q : Int32 → kx_S → Prop} (hQ : ∀ y0 y1, I y1 → Q y0 y1) : ∀ (n : Nat) (l0 : Nat) (l1 : Int32) (σ : kx_S), I σ → vX8_freesLowestJam_12 k37 Q n l0 l1 σ := by
  intro n
  induction n with
  | zero => intro l0 l1 σ i; exact trivial
  | succ n ih =>
    intro l0 l1 σ i
    unfold vX8_freesLowestJam_12
    refine ⟨?_, ?_⟩
    · intro e1
      exact hQ _ _ i
    · intro e2
      intro e3
      intro a8 e4
      intro e5
      refine jfJx4a65c_get_915e3 (I := I) (fw_sub W (by decide)) ?_ _ _ _ i
      intro q11 σ10 iσ10
      intro a13 e6
      intro e7
      refine ⟨?_, ?_⟩
      · intro e8
        intro v17 e9
        exact ih _ _ _ iσ10
      · intro e10
        exact hk37 _ _ iσ10
def vX8_freesLowestJam (l0 : Nat) (σ : kx_S) (Q : Int32 → kx_S → Prop) : Prop := xt σ l0 = 10 → ∀ a19, xr σ 163 l0 = some a19 → xt σ a19 = 1 → vJx4a65c_size_8abf5 a19 σ (fun r22 σ21 => ∀ v24, v24 = r22 - 1 → ∀ j, vX8_freesLowestJam_12 (vX8_freesLowestJam_37 Q) Q j l0 v24 σ21)
set_option maxRecDepth 100000 in
set_option maxHeartbeats 4000000 in
theorem jcX8_freesLowestJam {Q Q' Q'' : Int32 → kx_S → Prop} (hQ : ∀ y0 y1, Q y0 y1 → Q' y0 y1 → Q'' y0 y1) : ∀ (l0 : Nat) (σ : kx_S), wX8_freesLowestJam l0 σ Q → vX8_freesLowestJam l0 σ Q' → wX8_freesLowestJam l0 σ Q'' := by
  intro l0 σ h v
  unfold wX8_freesLowestJam at h
  unfold vX8_freesLowestJam at v
  unfold wX8_freesLowestJam
  refine ⟨h.1, ?_⟩
  have v := v h.1
  have h := h.2
  obtain ⟨a19, e2, h⟩ := h
  refine ⟨a19, e2, ?_⟩
  have v := v a19 e2
  refine ⟨h.1, ?_⟩
  have v := v h.1
  have h := h.2
  refine jcJx4a65c_size_8abf5 ?_ _ _ h v
  intro r22 σ21 h v
  intro v24 e4
  have h := h v24 e4
  have v := v v24 e4
  obtain ⟨j, h⟩ := h
  refine ⟨j, ?_⟩
  have v := v j
  exact jcX8_freesLowestJam_12 (k37 := wX8_freesLowestJam_37 Q) (k37' := vX8_freesLowestJam_37 Q') (k37'' := wX8_freesLowestJam_37 Q'') (fun _ _ h v => jcX8_freesLowestJam_37 hQ _ _ h v) hQ _ _ _ _ h v
set_option maxRecDepth 100000 in
set_option maxHeartbeats 4000000 in
theorem jaX8_freesLowestJam {Q Q' : Int32 → kx_S → Prop} (hQ : ∀ y0 y1, Q y0 y1 → Q' y0 y1) : ∀ (l0 : Nat) (σ : kx_S), wX8_freesLowestJam l0 σ Q → vX8_freesLowestJam l0 σ Q' := by
  intro l0 σ h
  unfold wX8_freesLowestJam at h
  unfold vX8_freesLowestJam
  intro e1
  have h := h.2
  obtain ⟨a19', e2, h⟩ := h
  intro a19 e3
  have x9 : a19' = a19 := Option.some.inj (e2.symm.trans e3)
  rw [x9] at h
  intro e4
  have h := h.2
  refine jaJx4a65c_size_8abf5 ?_ _ _ h
  intro r22 σ21 h
  intro v24 e5
  have h := h v24 e5
  obtain ⟨j, h⟩ := h
  intro j9
  exact jaX8_freesLowestJam_12 (k37 := wX8_freesLowestJam_37 Q) (k37' := vX8_freesLowestJam_37 Q') (fun _ _ h => jaX8_freesLowestJam_37 hQ _ _ h) hQ _ j9 _ _ _ h
set_option maxRecDepth 100000 in
set_option maxHeartbeats 4000000 in
theorem jfX8_freesLowestJam {I : kx_S → Prop} (W : fw_ I [50, 51]) {Q : Int32 → kx_S → Prop} (hQ : ∀ y0 y1, I y1 → Q y0 y1) : ∀ (l0 : Nat) (σ : kx_S), I σ → vX8_freesLowestJam l0 σ Q := by
  intro l0 σ i
  unfold vX8_freesLowestJam
  intro e1
  intro a19 e2
  intro e3
  refine jfJx4a65c_size_8abf5 (I := I) (fw_sub W (by decide)) ?_ _ _ i
  intro r22 σ21 iσ21
  intro v24 e4
  intro j
  exact jfX8_freesLowestJam_12 (I := I) (fw_sub W (by decide)) (k37 := vX8_freesLowestJam_37 Q) (fun _ _ i => jfX8_freesLowestJam_37 (I := I) (fw_sub W (by decide)) hQ _ _ i) hQ _ _ _ _ iσ21
def vX8_makeJamsKnown_41 (k2 : Nat → Int32 → kx_S → Prop) (Q : kx_S → Prop) (l0 : Nat) (l1 : Int32) (σ : kx_S) : Prop := ∀ v1 : Int32, v1 = l1 + 1 → k2 l0 v1 σ
set_option maxRecDepth 100000 in
set_option maxHeartbeats 4000000 in
theorem jcX8_makeJamsKnown_41 {k2 k2' k2'' : Nat → Int32 → kx_S → Prop} (hk2 : ∀ y0 y1 y2, k2 y0 y1 y2 → k2' y0 y1 y2 → k2'' y0 y1 y2) {Q Q' Q'' : kx_S → Prop} (hQ : ∀ y0, Q y0 → Q' y0 → Q'' y0) : ∀ (l0 : Nat) (l1 : Int32) (σ : kx_S), wX8_makeJamsKnown_41 k2 Q l0 l1 σ → vX8_makeJamsKnown_41 k2' Q' l0 l1 σ → wX8_makeJamsKnown_41 k2'' Q'' l0 l1 σ := by
  intro l0 l1 σ h v
  unfold wX8_makeJamsKnown_41 at h
  unfold vX8_makeJamsKnown_41 at v
  unfold wX8_makeJamsKnown_41
  intro v1 e1
  have h := h v1 e1
  have v := v v1 e1
  exact hk2 _ _ _ h v
set_option maxRecDepth 100000 in
set_option maxHeartbeats 4000000 in
theorem jaX8_makeJamsKnown_41 {k2 k2' : Nat → Int32 → kx_S → Prop} (hk2 : ∀ y0 y1 y2, k2 y0 y1 y2 → k2' y0 y1 y2) {Q Q' : kx_S → Prop} (hQ : ∀ y0, Q y0 → Q' y0) : ∀ (l0 : Nat) (l1 : Int32) (σ : kx_S), wX8_makeJamsKnown_41 k2 Q l0 l1 σ → vX8_makeJamsKnown_41 k2' Q' l0 l1 σ := by
  intro l0 l1 σ h
  unfold wX8_makeJamsKnown_41 at h
  unfold vX8_makeJamsKnown_41
  intro v1 e1
  have h := h v1 e1
  exact hk2 _ _ _ h
set_option maxRecDepth 100000 in
set_option maxHeartbeats 4000000 in
theorem jfX8_makeJamsKnown_41 {I : kx_S → Prop} (W : fw_ I []) {k2 : Nat → Int32 → kx_S → Prop} (hk2 : ∀ y0 y1 y2, I y2 → k2 y0 y1 y2) {Q : kx_S → Prop} (hQ : ∀ y0, I y0 → Q y0) : ∀ (l0 : Nat) (l1 : Int32) (σ : kx_S), I σ → vX8_makeJamsKnown_41 k2 Q l0 l1 σ := by
  intro l0 l1 σ i
  unfold vX8_makeJamsKnown_41
  intro v1 e1
  exact hk2 _ _ _ i
def vX8_makeJamsKnown_2 (Q : kx_S → Prop) : Nat → Nat → Int32 → kx_S → Prop
  | 0, _, _, _ => True
  | n + 1, l0, l1, σ => xt σ l0 = 10 → ∀ a3, xr σ 163 l0 = some a3 → xt σ a3 = 1 → vJx4a65c_size_8abf5 a3 σ (fun r6 σ5 => ((r6 ≤ l1 → Q σ5) ∧ (¬ (r6 ≤ l1) → xt σ5 l0 = 10 → ∀ a10, xr σ5 163 l0 = some a10 → xt σ5 a10 = 1 → vJx4a65c_get_915e3 a10 l1 σ5 (fun q13 σ12 => ∀ a15, q13 = some a15 → xt σ12 a15 = 3 → (((xi σ12 50 a15) = 0 → vX8_makeJamsKnown_41 (vX8_makeJamsKnown_2 Q n) Q l0 l1 σ12) ∧ (¬ ((xi σ12 50 a15) = 0) → ∀ σ19, σ19 = xsi σ12 51 a15 1 → vX8_makeJamsKnown_41 (vX8_makeJamsKnown_2 Q n) Q l0 l1 σ19))))))
set_option maxRecDepth 100000 in
set_option maxHeartbeats 4000000 in
theorem jcX8_makeJamsKnown_2 {Q Q' Q'' : kx_S → Prop} (hQ : ∀ y0, Q y0 → Q' y0 → Q'' y0) : ∀ (n : Nat) (l0 : Nat) (l1 : Int32) (σ : kx_S), wX8_makeJamsKnown_2 Q n l0 l1 σ → vX8_makeJamsKnown_2 Q' n l0 l1 σ → wX8_makeJamsKnown_2 Q'' n l0 l1 σ := by
  intro n
  induction n with
  | zero => intro l0 l1 σ h; exact h.elim
  | succ n ih =>
    intro l0 l1 σ h v
    unfold wX8_makeJamsKnown_2 at h
    unfold vX8_makeJamsKnown_2 at v
    unfold wX8_makeJamsKnown_2
    refine ⟨h.1, ?_⟩
    have v := v h.1
    have h := h.2
    obtain ⟨a3, e2, h⟩ := h
    refine ⟨a3, e2, ?_⟩
    have v := v a3 e2
    refine ⟨h.1, ?_⟩
    have v := v h.1
    have h := h.2
    refine jcJx4a65c_size_8abf5 ?_ _ _ h v
    intro r6 σ5 h v
    refine ⟨?_, ?_⟩
    · have h := h.1
      have v := v.1
      intro e4
      have h := h e4
      have v := v e4
      exact hQ _ h v
    · have h := h.2
      have v := v.2
      intro e5
      have h := h e5
      have v := v e5
      refine ⟨h.1, ?_⟩
      have v := v h.1
      have h := h.2
      obtain ⟨a10, e7, h⟩ := h
      refine ⟨a10, e7, ?_⟩
      have v := v a10 e7
      refine ⟨h.1, ?_⟩
      have v := v h.1
      have h := h.2
      refine jcJx4a65c_get_915e3 ?_ _ _ _ h v
      intro q13 σ12 h v
      obtain ⟨a15, e9, h⟩ := h
      refine ⟨a15, e9, ?_⟩
      have v := v a15 e9
      refine ⟨h.1, ?_⟩
      have v := v h.1
      have h := h.2
      refine ⟨?_, ?_⟩
      · have h := h.1
        have v := v.1
        intro e11
        have h := h e11
        have v := v e11
        exact jcX8_makeJamsKnown_41 (k2 := wX8_makeJamsKnown_2 Q n) (k2' := vX8_makeJamsKnown_2 Q' n) (k2'' := wX8_makeJamsKnown_2 Q'' n) (fun _ _ _ h v => ih _ _ _ h v) hQ _ _ _ h v
      · have h := h.2
        have v := v.2
        intro e12
        have h := h e12
        have v := v e12
        intro σ19 e13
        have h := h σ19 e13
        have v := v σ19 e13
        exact jcX8_makeJamsKnown_41 (k2 := wX8_makeJamsKnown_2 Q n) (k2' := vX8_makeJamsKnown_2 Q' n) (k2'' := wX8_makeJamsKnown_2 Q'' n) (fun _ _ _ h v => ih _ _ _ h v) hQ _ _ _ h v
set_option maxRecDepth 100000 in
set_option maxHeartbeats 4000000 in
theorem jaX8_makeJamsKnown_2 {Q Q' : kx_S → Prop} (hQ : ∀ y0, Q y0 → Q' y0) : ∀ (n m : Nat) (l0 : Nat) (l1 : Int32) (σ : kx_S), wX8_makeJamsKnown_2 Q n l0 l1 σ → vX8_makeJamsKnown_2 Q' m l0 l1 σ := by
  intro n
  induction n with
  | zero => intro m l0 l1 σ h; exact h.elim
  | succ n ih =>
    intro m l0 l1 σ h
    cases m with
    | zero => exact trivial
    | succ m =>
      unfold wX8_makeJamsKnown_2 at h
      unfold vX8_makeJamsKnown_2
      intro e1
      have h := h.2
      obtain ⟨a3', e2, h⟩ := h
      intro a3 e3
      have x9 : a3' = a3 := Option.some.inj (e2.symm.trans e3)
      rw [x9] at h
      intro e4
      have h := h.2
      refine jaJx4a65c_size_8abf5 ?_ _ _ h
      intro r6 σ5 h
      refine ⟨?_, ?_⟩
      · have h := h.1
        intro e5
        have h := h e5
        exact hQ _ h
      · have h := h.2
        intro e6
        have h := h e6
        intro e7
        have h := h.2
        obtain ⟨a10', e8, h⟩ := h
        intro a10 e9
        have x9 : a10' = a10 := Option.some.inj (e8.symm.trans e9)
        rw [x9] at h
        intro e10
        have h := h.2
        refine jaJx4a65c_get_915e3 ?_ _ _ _ h
        intro q13 σ12 h
        obtain ⟨a15', e11, h⟩ := h
        intro a15 e12
        have x9 : a15' = a15 := Option.some.inj (e11.symm.trans e12)
        rw [x9] at h
        intro e13
        have h := h.2
        refine ⟨?_, ?_⟩
        · have h := h.1
          intro e14
          have h := h e14
          exact jaX8_makeJamsKnown_41 (k2 := wX8_makeJamsKnown_2 Q n) (k2' := vX8_makeJamsKnown_2 Q' m) (fun _ _ _ h => ih m _ _ _ h) hQ _ _ _ h
        · have h := h.2
          intro e15
          have h := h e15
          intro σ19 e16
          have h := h σ19 e16
          exact jaX8_makeJamsKnown_41 (k2 := wX8_makeJamsKnown_2 Q n) (k2' := vX8_makeJamsKnown_2 Q' m) (fun _ _ _ h => ih m _ _ _ h) hQ _ _ _ h
set_option maxRecDepth 100000 in
set_option maxHeartbeats 4000000 in
theorem jfX8_makeJamsKnown_2 {I : kx_S → Prop} (W : fw_ I [51]) {Q : kx_S → Prop} (hQ : ∀ y0, I y0 → Q y0) : ∀ (n : Nat) (l0 : Nat) (l1 : Int32) (σ : kx_S), I σ → vX8_makeJamsKnown_2 Q n l0 l1 σ := by
  intro n
  induction n with
  | zero => intro l0 l1 σ i; exact trivial
  | succ n ih =>
    intro l0 l1 σ i
    unfold vX8_makeJamsKnown_2
    intro e1
    intro a3 e2
    intro e3
    refine jfJx4a65c_size_8abf5 (I := I) (fw_sub W (by decide)) ?_ _ _ i
    intro r6 σ5 iσ5
    refine ⟨?_, ?_⟩
    · intro e4
      exact hQ _ iσ5
    · intro e5
      intro e6
      intro a10 e7
      intro e8
      refine jfJx4a65c_get_915e3 (I := I) (fw_sub W (by decide)) ?_ _ _ _ iσ5
      intro q13 σ12 iσ12
      intro a15 e9
      intro e10
      refine ⟨?_, ?_⟩
      · intro e11
        exact jfX8_makeJamsKnown_41 (I := I) (fw_sub W (by decide)) (k2 := vX8_makeJamsKnown_2 Q n) (fun _ _ _ i => ih _ _ _ i) hQ _ _ _ iσ12
      · intro e12
        intro σ19 e13
        have iσ19 : I σ19 := by rw [e13]; exact ((W _ iσ12).1 51 (by decide)).1 _ _
        exact jfX8_makeJamsKnown_41 (I := I) (fw_sub W (by decide)) (k2 := vX8_makeJamsKnown_2 Q n) (fun _ _ _ i => ih _ _ _ i) hQ _ _ _ iσ19
def vX8_makeJamsKnown (l0 : Nat) (σ : kx_S) (Q : kx_S → Prop) : Prop := ∀ j, vX8_makeJamsKnown_2 Q j l0 0 σ
set_option maxRecDepth 100000 in
set_option maxHeartbeats 4000000 in
theorem jcX8_makeJamsKnown {Q Q' Q'' : kx_S → Prop} (hQ : ∀ y0, Q y0 → Q' y0 → Q'' y0) : ∀ (l0 : Nat) (σ : kx_S), wX8_makeJamsKnown l0 σ Q → vX8_makeJamsKnown l0 σ Q' → wX8_makeJamsKnown l0 σ Q'' := by
  intro l0 σ h v
  unfold wX8_makeJamsKnown at h
  unfold vX8_makeJamsKnown at v
  unfold wX8_makeJamsKnown
  obtain ⟨j, h⟩ := h
  refine ⟨j, ?_⟩
  have v := v j
  exact jcX8_makeJamsKnown_2 hQ _ _ _ _ h v
set_option maxRecDepth 100000 in
set_option maxHeartbeats 4000000 in
theorem jaX8_makeJamsKnown {Q Q' : kx_S → Prop} (hQ : ∀ y0, Q y0 → Q' y0) : ∀ (l0 : Nat) (σ : kx_S), wX8_makeJamsKnown l0 σ Q → vX8_makeJamsKnown l0 σ Q' := by
  intro l0 σ h
  unfold wX8_makeJamsKnown at h
  unfold vX8_makeJamsKnown
  obtain ⟨j, h⟩ := h
  intro j9
  exact jaX8_makeJamsKnown_2 hQ _ j9 _ _ _ h
set_option maxRecDepth 100000 in
set_option maxHeartbeats 4000000 in
theorem jfX8_makeJamsKnown {I : kx_S → Prop} (W : fw_ I [51]) {Q : kx_S → Prop} (hQ : ∀ y0, I y0 → Q y0) : ∀ (l0 : Nat) (σ : kx_S), I σ → vX8_makeJamsKnown l0 σ Q := by
  intro l0 σ i
  unfold vX8_makeJamsKnown
  intro j
  exact jfX8_makeJamsKnown_2 (I := I) (fw_sub W (by decide)) hQ _ _ _ _ i
def vX9_init (l0 : Nat) (σ : kx_S) (Q : kx_S → Prop) : Prop := xc σ < kx_N → ¬ (500 : Int32) < 0 → (Int32.toNatClampNeg 500) ≤ 600 → ∀ p1, xt σ p1 = 0 → p1 ≠ xz σ → ∀ σ7, σ7 = xnewA σ p1 20 (Int32.toNatClampNeg 500) → xt σ7 l0 = 11 → ∀ σ10, σ10 = xsr σ7 176 l0 (some p1) → Q σ10
set_option maxRecDepth 100000 in
set_option maxHeartbeats 4000000 in
theorem jcX9_init {Q Q' Q'' : kx_S → Prop} (hQ : ∀ y0, Q y0 → Q' y0 → Q'' y0) : ∀ (l0 : Nat) (σ : kx_S), wX9_init l0 σ Q → vX9_init l0 σ Q' → wX9_init l0 σ Q'' := by
  intro l0 σ h v
  unfold wX9_init at h
  unfold vX9_init at v
  unfold wX9_init
  refine ⟨h.1, ?_⟩
  have v := v h.1
  have h := h.2
  refine ⟨h.1, ?_⟩
  have v := v h.1
  have h := h.2
  refine ⟨h.1, ?_⟩
  have v := v h.1
  have h := h.2
  intro p1 e4 e5
  have h := h p1 e4 e5
  have v := v p1 e4 e5
  intro σ7 e6
  have h := h σ7 e6
  have v := v σ7 e6
  refine ⟨h.1, ?_⟩
  have v := v h.1
  have h := h.2
  intro σ10 e8
  have h := h σ10 e8
  have v := v σ10 e8
  exact hQ _ h v
set_option maxRecDepth 100000 in
set_option maxHeartbeats 4000000 in
theorem jaX9_init {Q Q' : kx_S → Prop} (hQ : ∀ y0, Q y0 → Q' y0) : ∀ (l0 : Nat) (σ : kx_S), wX9_init l0 σ Q → vX9_init l0 σ Q' := by
  intro l0 σ h
  unfold wX9_init at h
  unfold vX9_init
  intro e1
  have h := h.2
  intro e2
  have h := h.2
  intro e3
  have h := h.2
  intro p1 e4 e5
  have h := h p1 e4 e5
  intro σ7 e6
  have h := h σ7 e6
  intro e7
  have h := h.2
  intro σ10 e8
  have h := h σ10 e8
  exact hQ _ h
set_option maxRecDepth 100000 in
set_option maxHeartbeats 4000000 in
theorem jfX9_init {I : kx_S → Prop} (W : fw_ I [176, 1220]) {Q : kx_S → Prop} (hQ : ∀ y0, I y0 → Q y0) : ∀ (l0 : Nat) (σ : kx_S), I σ → vX9_init l0 σ Q := by
  intro l0 σ i
  unfold vX9_init
  intro e1
  intro e2
  intro e3
  intro p1 e4 e5
  intro σ7 e6
  have iσ7 : I σ7 := by rw [e6]; exact (W _ i).2.2.2.2.2.2.2 20 (by decide) _ e4 _
  intro e7
  intro σ10 e8
  have iσ10 : I σ10 := by rw [e8]; exact ((W _ iσ7).1 176 (by decide)).2.1 _ _
  exact hQ _ iσ10
def vX9_append_3 (Q : kx_S → Prop) : Nat → Nat → Int32 → Int32 → kx_S → Prop
  | 0, _, _, _, _ => True
  | n + 1, l0, l1, l2, σ => ((l2 < 0 → Q σ) ∧ (¬ (l2 < 0) → xt σ l0 = 11 → ∀ a3, xr σ 176 l0 = some a3 → xt σ a3 = 20 → (((nI (xn σ a3)) ≤ (xi σ 177 l0) → Q σ) ∧ (¬ ((nI (xn σ a3)) ≤ (xi σ 177 l0)) → ∀ a7, xr σ 176 l0 = some a7 → ∀ v9 : Int32, v9 = (l1.toUInt32 >>> (l2.toUInt32 &&& Int32.toUInt32 31)).toInt32 → xt σ a7 = 20 → vp_in (xi σ 177 l0) (xn σ a7) → ∀ σ12, σ12 = xsai σ a7 (xi σ 177 l0).toNatClampNeg (v9 &&& 255) → ∀ σ16, σ16 = xsi σ12 177 l0 ((xi σ12 177 l0) + 1) → ∀ v20 : Int32, v20 = l2 + (-8) → vX9_append_3 Q n l0 l1 v20 σ16))))
set_option maxRecDepth 100000 in
set_option maxHeartbeats 4000000 in
theorem jcX9_append_3 {Q Q' Q'' : kx_S → Prop} (hQ : ∀ y0, Q y0 → Q' y0 → Q'' y0) : ∀ (n : Nat) (l0 : Nat) (l1 : Int32) (l2 : Int32) (σ : kx_S), wX9_append_3 Q n l0 l1 l2 σ → vX9_append_3 Q' n l0 l1 l2 σ → wX9_append_3 Q'' n l0 l1 l2 σ := by
  intro n
  induction n with
  | zero => intro l0 l1 l2 σ h; exact h.elim
  | succ n ih =>
    intro l0 l1 l2 σ h v
    unfold wX9_append_3 at h
    unfold vX9_append_3 at v
    unfold wX9_append_3
    refine ⟨?_, ?_⟩
    · have h := h.1
      have v := v.1
      intro e1
      have h := h e1
      have v := v e1
      exact hQ _ h v
    · have h := h.2
      have v := v.2
      intro e2
      have h := h e2
      have v := v e2
      refine ⟨h.1, ?_⟩
      have v := v h.1
      have h := h.2
      obtain ⟨a3, e4, h⟩ := h
      refine ⟨a3, e4, ?_⟩
      have v := v a3 e4
      refine ⟨h.1, ?_⟩
      have v := v h.1
      have h := h.2
      refine ⟨?_, ?_⟩
      · have h := h.1
        have v := v.1
        intro e6
        have h := h e6
        have v := v e6
        exact hQ _ h v
      · have h := h.2
        have v := v.2
        intro e7
        have h := h e7
        have v := v e7
        obtain ⟨a7, e8, h⟩ := h
        refine ⟨a7, e8, ?_⟩
        have v := v a7 e8
        intro v9 e9
        have h := h v9 e9
        have v := v v9 e9
        refine ⟨h.1, ?_⟩
        have v := v h.1
        have h := h.2
        refine ⟨h.1, ?_⟩
        have v := v h.1
        have h := h.2
        intro σ12 e12
        have h := h σ12 e12
        have v := v σ12 e12
        intro σ16 e13
        have h := h σ16 e13
        have v := v σ16 e13
        intro v20 e14
        have h := h v20 e14
        have v := v v20 e14
        exact ih _ _ _ _ h v
set_option maxRecDepth 100000 in
set_option maxHeartbeats 4000000 in
theorem jaX9_append_3 {Q Q' : kx_S → Prop} (hQ : ∀ y0, Q y0 → Q' y0) : ∀ (n m : Nat) (l0 : Nat) (l1 : Int32) (l2 : Int32) (σ : kx_S), wX9_append_3 Q n l0 l1 l2 σ → vX9_append_3 Q' m l0 l1 l2 σ := by
  intro n
  induction n with
  | zero => intro m l0 l1 l2 σ h; exact h.elim
  | succ n ih =>
    intro m l0 l1 l2 σ h
    cases m with
    | zero => exact trivial
    | succ m =>
      unfold wX9_append_3 at h
      unfold vX9_append_3
      refine ⟨?_, ?_⟩
      · have h := h.1
        intro e1
        have h := h e1
        exact hQ _ h
      · have h := h.2
        intro e2
        have h := h e2
        intro e3
        have h := h.2
        obtain ⟨a3', e4, h⟩ := h
        intro a3 e5
        have x9 : a3' = a3 := Option.some.inj (e4.symm.trans e5)
        rw [x9] at h
        intro e6
        have h := h.2
        refine ⟨?_, ?_⟩
        · have h := h.1
          intro e7
          have h := h e7
          exact hQ _ h
        · have h := h.2
          intro e8
          have h := h e8
          obtain ⟨a7', e9, h⟩ := h
          intro a7 e10
          have x9 : a7' = a7 := Option.some.inj (e9.symm.trans e10)
          rw [x9] at h
          intro v9 e11
          have h := h v9 e11
          intro e12
          have h := h.2
          intro e13
          have h := h.2
          intro σ12 e14
          have h := h σ12 e14
          intro σ16 e15
          have h := h σ16 e15
          intro v20 e16
          have h := h v20 e16
          exact ih m _ _ _ _ h
set_option maxRecDepth 100000 in
set_option maxHeartbeats 4000000 in
theorem jfX9_append_3 {I : kx_S → Prop} (W : fw_ I [177, 1001]) {Q : kx_S → Prop} (hQ : ∀ y0, I y0 → Q y0) : ∀ (n : Nat) (l0 : Nat) (l1 : Int32) (l2 : Int32) (σ : kx_S), I σ → vX9_append_3 Q n l0 l1 l2 σ := by
  intro n
  induction n with
  | zero => intro l0 l1 l2 σ i; exact trivial
  | succ n ih =>
    intro l0 l1 l2 σ i
    unfold vX9_append_3
    refine ⟨?_, ?_⟩
    · intro e1
      exact hQ _ i
    · intro e2
      intro e3
      intro a3 e4
      intro e5
      refine ⟨?_, ?_⟩
      · intro e6
        exact hQ _ i
      · intro e7
        intro a7 e8
        intro v9 e9
        intro e10
        intro e11
        intro σ12 e12
        have iσ12 : I σ12 := by rw [e12]; exact (W _ i).2.1 (by decide) _ _ _
        intro σ16 e13
        have iσ16 : I σ16 := by rw [e13]; exact ((W _ iσ12).1 177 (by decide)).1 _ _
        intro v20 e14
        exact ih _ _ _ _ iσ16
def vX9_append (l0 : Nat) (l1 : Int32) (σ : kx_S) (Q : kx_S → Prop) : Prop := ∀ j, vX9_append_3 Q j l0 l1 24 σ
set_option maxRecDepth 100000 in
set_option maxHeartbeats 4000000 in
theorem jcX9_append {Q Q' Q'' : kx_S → Prop} (hQ : ∀ y0, Q y0 → Q' y0 → Q'' y0) : ∀ (l0 : Nat) (l1 : Int32) (σ : kx_S), wX9_append l0 l1 σ Q → vX9_append l0 l1 σ Q' → wX9_append l0 l1 σ Q'' := by
  intro l0 l1 σ h v
  unfold wX9_append at h
  unfold vX9_append at v
  unfold wX9_append
  obtain ⟨j, h⟩ := h
  refine ⟨j, ?_⟩
  have v := v j
  exact jcX9_append_3 hQ _ _ _ _ _ h v
set_option maxRecDepth 100000 in
set_option maxHeartbeats 4000000 in
theorem jaX9_append {Q Q' : kx_S → Prop} (hQ : ∀ y0, Q y0 → Q' y0) : ∀ (l0 : Nat) (l1 : Int32) (σ : kx_S), wX9_append l0 l1 σ Q → vX9_append l0 l1 σ Q' := by
  intro l0 l1 σ h
  unfold wX9_append at h
  unfold vX9_append
  obtain ⟨j, h⟩ := h
  intro j9
  exact jaX9_append_3 hQ _ j9 _ _ _ _ h
set_option maxRecDepth 100000 in
set_option maxHeartbeats 4000000 in
theorem jfX9_append {I : kx_S → Prop} (W : fw_ I [177, 1001]) {Q : kx_S → Prop} (hQ : ∀ y0, I y0 → Q y0) : ∀ (l0 : Nat) (l1 : Int32) (σ : kx_S), I σ → vX9_append l0 l1 σ Q := by
  intro l0 l1 σ i
  unfold vX9_append
  intro j
  exact jfX9_append_3 (I := I) (fw_sub W (by decide)) hQ _ _ _ _ _ i
end
section
def vX10_init (l0 : Nat) (l1 : Nat) (σ : kx_S) (Q : kx_S → Prop) : Prop := xt σ l0 = 12 → ∀ σ2, σ2 = xsr σ 192 l0 (some l1) → Q σ2
set_option maxRecDepth 100000 in
set_option maxHeartbeats 4000000 in
theorem jcX10_init {Q Q' Q'' : kx_S → Prop} (hQ : ∀ y0, Q y0 → Q' y0 → Q'' y0) : ∀ (l0 : Nat) (l1 : Nat) (σ : kx_S), wX10_init l0 l1 σ Q → vX10_init l0 l1 σ Q' → wX10_init l0 l1 σ Q'' := by
  intro l0 l1 σ h v
  unfold wX10_init at h
  unfold vX10_init at v
  unfold wX10_init
  refine ⟨h.1, ?_⟩
  have v := v h.1
  have h := h.2
  intro σ2 e2
  have h := h σ2 e2
  have v := v σ2 e2
  exact hQ _ h v
set_option maxRecDepth 100000 in
set_option maxHeartbeats 4000000 in
theorem jaX10_init {Q Q' : kx_S → Prop} (hQ : ∀ y0, Q y0 → Q' y0) : ∀ (l0 : Nat) (l1 : Nat) (σ : kx_S), wX10_init l0 l1 σ Q → vX10_init l0 l1 σ Q' := by
  intro l0 l1 σ h
  unfold wX10_init at h
  unfold vX10_init
  intro e1
  have h := h.2
  intro σ2 e2
  have h := h σ2 e2
  exact hQ _ h
set_option maxRecDepth 100000 in
set_option maxHeartbeats 4000000 in
theorem jfX10_init {I : kx_S → Prop} (W : fw_ I [192]) {Q : kx_S → Prop} (hQ : ∀ y0, I y0 → Q y0) : ∀ (l0 : Nat) (l1 : Nat) (σ : kx_S), I σ → vX10_init l0 l1 σ Q := by
  intro l0 l1 σ i
  unfold vX10_init
  intro e1
  intro σ2 e2
  have iσ2 : I σ2 := by rw [e2]; exact ((W _ i).1 192 (by decide)).2.1 _ _
  exact hQ _ iσ2
def vX10_kindOf_28 (Q : Int32 → kx_S → Prop) (l0 : Int32) (σ : kx_S) : Prop := ∀ v1, v1 = l0 → ((v1 = (-1) → Q 0 σ) ∧ ((v1 = 10 → Q 5 σ) ∧ ((v1 = 32 → Q 5 σ) ∧ ((v1 = 40 → Q l0 σ) ∧ ((v1 = 41 → Q l0 σ) ∧ ((v1 = 42 → Q l0 σ) ∧ ((v1 = 43 → Q l0 σ) ∧ ((v1 = 45 → Q l0 σ) ∧ ((v1 = 47 → Q l0 σ) ∧ ((v1 = 59 → Q l0 σ) ∧ ((v1 = 60 → Q l0 σ) ∧ ((v1 = 61 → Q l0 σ) ∧ (¬ v1 = (-1) → ¬ v1 = 10 → ¬ v1 = 32 → ¬ v1 = 40 → ¬ v1 = 41 → ¬ v1 = 42 → ¬ v1 = 43 → ¬ v1 = 45 → ¬ v1 = 47 → ¬ v1 = 59 → ¬ v1 = 60 → ¬ v1 = 61 → Q 4 σ)))))))))))))
set_option maxRecDepth 100000 in
set_option maxHeartbeats 4000000 in
theorem jcX10_kindOf_28 {Q Q' Q'' : Int32 → kx_S → Prop} (hQ : ∀ y0 y1, Q y0 y1 → Q' y0 y1 → Q'' y0 y1) : ∀ (l0 : Int32) (σ : kx_S), wX10_kindOf_28 Q l0 σ → vX10_kindOf_28 Q' l0 σ → wX10_kindOf_28 Q'' l0 σ := by
  intro l0 σ h v
  unfold wX10_kindOf_28 at h
  unfold vX10_kindOf_28 at v
  unfold wX10_kindOf_28
  intro v1 e1
  have h := h v1 e1
  have v := v v1 e1
  refine ⟨?_, ?_⟩
  · have h := h.1
    have v := v.1
    intro e2
    have h := h e2
    have v := v e2
    exact hQ _ _ h v
  · have h := h.2
    have v := v.2
    refine ⟨?_, ?_⟩
    · have h := h.1
      have v := v.1
      intro e3
      have h := h e3
      have v := v e3
      exact hQ _ _ h v
    · have h := h.2
      have v := v.2
      refine ⟨?_, ?_⟩
      · have h := h.1
        have v := v.1
        intro e4
        have h := h e4
        have v := v e4
        exact hQ _ _ h v
      · have h := h.2
        have v := v.2
        refine ⟨?_, ?_⟩
        · have h := h.1
          have v := v.1
          intro e5
          have h := h e5
          have v := v e5
          exact hQ _ _ h v
        · have h := h.2
          have v := v.2
          refine ⟨?_, ?_⟩
          · have h := h.1
            have v := v.1
            intro e6
            have h := h e6
            have v := v e6
            exact hQ _ _ h v
          · have h := h.2
            have v := v.2
            refine ⟨?_, ?_⟩
            · have h := h.1
              have v := v.1
              intro e7
              have h := h e7
              have v := v e7
              exact hQ _ _ h v
            · have h := h.2
              have v := v.2
              refine ⟨?_, ?_⟩
              · have h := h.1
                have v := v.1
                intro e8
                have h := h e8
                have v := v e8
                exact hQ _ _ h v
              · have h := h.2
                have v := v.2
                refine ⟨?_, ?_⟩
                · have h := h.1
                  have v := v.1
                  intro e9
                  have h := h e9
                  have v := v e9
                  exact hQ _ _ h v
                · have h := h.2
                  have v := v.2
                  refine ⟨?_, ?_⟩
                  · have h := h.1
                    have v := v.1
                    intro e10
                    have h := h e10
                    have v := v e10
                    exact hQ _ _ h v
                  · have h := h.2
                    have v := v.2
                    refine ⟨?_, ?_⟩
                    · have h := h.1
                      have v := v.1
                      intro e11
                      have h := h e11
                      have v := v e11
                      exact hQ _ _ h v
                    · have h := h.2
                      have v := v.2
                      refine ⟨?_, ?_⟩
                      · have h := h.1
                        have v := v.1
                        intro e12
                        have h := h e12
                        have v := v e12
                        exact hQ _ _ h v
                      · have h := h.2
                        have v := v.2
                        refine ⟨?_, ?_⟩
                        · have h := h.1
                          have v := v.1
                          intro e13
                          have h := h e13
                          have v := v e13
                          exact hQ _ _ h v
                        · have h := h.2
                          have v := v.2
                          intro e14 e15 e16 e17 e18 e19 e20 e21 e22 e23 e24 e25
                          have h := h e14 e15 e16 e17 e18 e19 e20 e21 e22 e23 e24 e25
                          have v := v e14 e15 e16 e17 e18 e19 e20 e21 e22 e23 e24 e25
                          exact hQ _ _ h v
set_option maxRecDepth 100000 in
set_option maxHeartbeats 4000000 in
theorem jaX10_kindOf_28 {Q Q' : Int32 → kx_S → Prop} (hQ : ∀ y0 y1, Q y0 y1 → Q' y0 y1) : ∀ (l0 : Int32) (σ : kx_S), wX10_kindOf_28 Q l0 σ → vX10_kindOf_28 Q' l0 σ := by
  intro l0 σ h
  unfold wX10_kindOf_28 at h
  unfold vX10_kindOf_28
  intro v1 e1
  have h := h v1 e1
  refine ⟨?_, ?_⟩
  · have h := h.1
    intro e2
    have h := h e2
    exact hQ _ _ h
  · have h := h.2
    refine ⟨?_, ?_⟩
    · have h := h.1
      intro e3
      have h := h e3
      exact hQ _ _ h
    · have h := h.2
      refine ⟨?_, ?_⟩
      · have h := h.1
        intro e4
        have h := h e4
        exact hQ _ _ h
      · have h := h.2
        refine ⟨?_, ?_⟩
        · have h := h.1
          intro e5
          have h := h e5
          exact hQ _ _ h
        · have h := h.2
          refine ⟨?_, ?_⟩
          · have h := h.1
            intro e6
            have h := h e6
            exact hQ _ _ h
          · have h := h.2
            refine ⟨?_, ?_⟩
            · have h := h.1
              intro e7
              have h := h e7
              exact hQ _ _ h
            · have h := h.2
              refine ⟨?_, ?_⟩
              · have h := h.1
                intro e8
                have h := h e8
                exact hQ _ _ h
              · have h := h.2
                refine ⟨?_, ?_⟩
                · have h := h.1
                  intro e9
                  have h := h e9
                  exact hQ _ _ h
                · have h := h.2
                  refine ⟨?_, ?_⟩
                  · have h := h.1
                    intro e10
                    have h := h e10
                    exact hQ _ _ h
                  · have h := h.2
                    refine ⟨?_, ?_⟩
                    · have h := h.1
                      intro e11
                      have h := h e11
                      exact hQ _ _ h
                    · have h := h.2
                      refine ⟨?_, ?_⟩
                      · have h := h.1
                        intro e12
                        have h := h e12
                        exact hQ _ _ h
                      · have h := h.2
                        refine ⟨?_, ?_⟩
                        · have h := h.1
                          intro e13
                          have h := h e13
                          exact hQ _ _ h
                        · have h := h.2
                          intro e14 e15 e16 e17 e18 e19 e20 e21 e22 e23 e24 e25
                          have h := h e14 e15 e16 e17 e18 e19 e20 e21 e22 e23 e24 e25
                          exact hQ _ _ h
set_option maxRecDepth 100000 in
set_option maxHeartbeats 4000000 in
theorem jfX10_kindOf_28 {I : kx_S → Prop} (W : fw_ I []) {Q : Int32 → kx_S → Prop} (hQ : ∀ y0 y1, I y1 → Q y0 y1) : ∀ (l0 : Int32) (σ : kx_S), I σ → vX10_kindOf_28 Q l0 σ := by
  intro l0 σ i
  unfold vX10_kindOf_28
  intro v1 e1
  refine ⟨?_, ?_⟩
  · intro e2
    exact hQ _ _ i
  · refine ⟨?_, ?_⟩
    · intro e3
      exact hQ _ _ i
    · refine ⟨?_, ?_⟩
      · intro e4
        exact hQ _ _ i
      · refine ⟨?_, ?_⟩
        · intro e5
          exact hQ _ _ i
        · refine ⟨?_, ?_⟩
          · intro e6
            exact hQ _ _ i
          · refine ⟨?_, ?_⟩
            · intro e7
              exact hQ _ _ i
            · refine ⟨?_, ?_⟩
              · intro e8
                exact hQ _ _ i
              · refine ⟨?_, ?_⟩
                · intro e9
                  exact hQ _ _ i
                · refine ⟨?_, ?_⟩
                  · intro e10
                    exact hQ _ _ i
                  · refine ⟨?_, ?_⟩
                    · intro e11
                      exact hQ _ _ i
                    · refine ⟨?_, ?_⟩
                      · intro e12
                        exact hQ _ _ i
                      · refine ⟨?_, ?_⟩
                        · intro e13
                          exact hQ _ _ i
                        · intro e14 e15 e16 e17 e18 e19 e20 e21 e22 e23 e24 e25
                          exact hQ _ _ i
def vX10_kindOf_14 (Q : Int32 → kx_S → Prop) (l0 : Int32) (σ : kx_S) : Prop := ((l0 < 48 → vX10_kindOf_28 Q l0 σ) ∧ (¬ (l0 < 48) → ((57 < l0 → vX10_kindOf_28 Q l0 σ) ∧ (¬ (57 < l0) → Q 2 σ))))
set_option maxRecDepth 100000 in
set_option maxHeartbeats 4000000 in
theorem jcX10_kindOf_14 {Q Q' Q'' : Int32 → kx_S → Prop} (hQ : ∀ y0 y1, Q y0 y1 → Q' y0 y1 → Q'' y0 y1) : ∀ (l0 : Int32) (σ : kx_S), wX10_kindOf_14 Q l0 σ → vX10_kindOf_14 Q' l0 σ → wX10_kindOf_14 Q'' l0 σ := by
  intro l0 σ h v
  unfold wX10_kindOf_14 at h
  unfold vX10_kindOf_14 at v
  unfold wX10_kindOf_14
  refine ⟨?_, ?_⟩
  · have h := h.1
    have v := v.1
    intro e1
    have h := h e1
    have v := v e1
    exact jcX10_kindOf_28 hQ _ _ h v
  · have h := h.2
    have v := v.2
    intro e2
    have h := h e2
    have v := v e2
    refine ⟨?_, ?_⟩
    · have h := h.1
      have v := v.1
      intro e3
      have h := h e3
      have v := v e3
      exact jcX10_kindOf_28 hQ _ _ h v
    · have h := h.2
      have v := v.2
      intro e4
      have h := h e4
      have v := v e4
      exact hQ _ _ h v
set_option maxRecDepth 100000 in
set_option maxHeartbeats 4000000 in
theorem jaX10_kindOf_14 {Q Q' : Int32 → kx_S → Prop} (hQ : ∀ y0 y1, Q y0 y1 → Q' y0 y1) : ∀ (l0 : Int32) (σ : kx_S), wX10_kindOf_14 Q l0 σ → vX10_kindOf_14 Q' l0 σ := by
  intro l0 σ h
  unfold wX10_kindOf_14 at h
  unfold vX10_kindOf_14
  refine ⟨?_, ?_⟩
  · have h := h.1
    intro e1
    have h := h e1
    exact jaX10_kindOf_28 hQ _ _ h
  · have h := h.2
    intro e2
    have h := h e2
    refine ⟨?_, ?_⟩
    · have h := h.1
      intro e3
      have h := h e3
      exact jaX10_kindOf_28 hQ _ _ h
    · have h := h.2
      intro e4
      have h := h e4
      exact hQ _ _ h
set_option maxRecDepth 100000 in
set_option maxHeartbeats 4000000 in
theorem jfX10_kindOf_14 {I : kx_S → Prop} (W : fw_ I []) {Q : Int32 → kx_S → Prop} (hQ : ∀ y0 y1, I y1 → Q y0 y1) : ∀ (l0 : Int32) (σ : kx_S), I σ → vX10_kindOf_14 Q l0 σ := by
  intro l0 σ i
  unfold vX10_kindOf_14
  refine ⟨?_, ?_⟩
  · intro e1
    exact jfX10_kindOf_28 (I := I) (fw_sub W (by decide)) hQ _ _ i
  · intro e2
    refine ⟨?_, ?_⟩
    · intro e3
      exact jfX10_kindOf_28 (I := I) (fw_sub W (by decide)) hQ _ _ i
    · intro e4
      exact hQ _ _ i
def vX10_kindOf (l0 : Int32) (σ : kx_S) (Q : Int32 → kx_S → Prop) : Prop := ((l0 < 97 → vX10_kindOf_14 Q l0 σ) ∧ (¬ (l0 < 97) → ((122 < l0 → vX10_kindOf_14 Q l0 σ) ∧ (¬ (122 < l0) → Q 1 σ))))
set_option maxRecDepth 100000 in
set_option maxHeartbeats 4000000 in
theorem jcX10_kindOf {Q Q' Q'' : Int32 → kx_S → Prop} (hQ : ∀ y0 y1, Q y0 y1 → Q' y0 y1 → Q'' y0 y1) : ∀ (l0 : Int32) (σ : kx_S), wX10_kindOf l0 σ Q → vX10_kindOf l0 σ Q' → wX10_kindOf l0 σ Q'' := by
  intro l0 σ h v
  unfold wX10_kindOf at h
  unfold vX10_kindOf at v
  unfold wX10_kindOf
  refine ⟨?_, ?_⟩
  · have h := h.1
    have v := v.1
    intro e1
    have h := h e1
    have v := v e1
    exact jcX10_kindOf_14 hQ _ _ h v
  · have h := h.2
    have v := v.2
    intro e2
    have h := h e2
    have v := v e2
    refine ⟨?_, ?_⟩
    · have h := h.1
      have v := v.1
      intro e3
      have h := h e3
      have v := v e3
      exact jcX10_kindOf_14 hQ _ _ h v
    · have h := h.2
      have v := v.2
      intro e4
      have h := h e4
      have v := v e4
      exact hQ _ _ h v
set_option maxRecDepth 100000 in
set_option maxHeartbeats 4000000 in
theorem jaX10_kindOf {Q Q' : Int32 → kx_S → Prop} (hQ : ∀ y0 y1, Q y0 y1 → Q' y0 y1) : ∀ (l0 : Int32) (σ : kx_S), wX10_kindOf l0 σ Q → vX10_kindOf l0 σ Q' := by
  intro l0 σ h
  unfold wX10_kindOf at h
  unfold vX10_kindOf
  refine ⟨?_, ?_⟩
  · have h := h.1
    intro e1
    have h := h e1
    exact jaX10_kindOf_14 hQ _ _ h
  · have h := h.2
    intro e2
    have h := h e2
    refine ⟨?_, ?_⟩
    · have h := h.1
      intro e3
      have h := h e3
      exact jaX10_kindOf_14 hQ _ _ h
    · have h := h.2
      intro e4
      have h := h e4
      exact hQ _ _ h
set_option maxRecDepth 100000 in
set_option maxHeartbeats 4000000 in
theorem jfX10_kindOf {I : kx_S → Prop} (W : fw_ I []) {Q : Int32 → kx_S → Prop} (hQ : ∀ y0 y1, I y1 → Q y0 y1) : ∀ (l0 : Int32) (σ : kx_S), I σ → vX10_kindOf l0 σ Q := by
  intro l0 σ i
  unfold vX10_kindOf
  refine ⟨?_, ?_⟩
  · intro e1
    exact jfX10_kindOf_14 (I := I) (fw_sub W (by decide)) hQ _ _ i
  · intro e2
    refine ⟨?_, ?_⟩
    · intro e3
      exact jfX10_kindOf_14 (I := I) (fw_sub W (by decide)) hQ _ _ i
    · intro e4
      exact hQ _ _ i
def vX10_byteAt (l0 : Nat) (l1 : Int32) (σ : kx_S) (Q : Int32 → kx_S → Prop) : Prop := ((l1 < 0 → Q (-1) σ) ∧ (¬ (l1 < 0) → xt σ l0 = 12 → (((xi σ 193 l0) ≤ l1 → Q (-1) σ) ∧ (¬ ((xi σ 193 l0) ≤ l1) → ∀ a4, xr σ 192 l0 = some a4 → xt σ a4 = 11 → ∀ a7, xr σ 176 a4 = some a7 → xt σ a7 = 20 → (((nI (xn σ a7)) ≤ l1 → Q (-1) σ) ∧ (¬ ((nI (xn σ a7)) ≤ l1) → ∀ a11, xr σ 192 l0 = some a11 → xt σ a11 = 11 → ∀ a14, xr σ 176 a11 = some a14 → xt σ a14 = 20 → vp_in l1 (xn σ a14) → Q (xai σ a14 l1.toNatClampNeg) σ))))))
set_option maxRecDepth 100000 in
set_option maxHeartbeats 4000000 in
theorem jcX10_byteAt {Q Q' Q'' : Int32 → kx_S → Prop} (hQ : ∀ y0 y1, Q y0 y1 → Q' y0 y1 → Q'' y0 y1) : ∀ (l0 : Nat) (l1 : Int32) (σ : kx_S), wX10_byteAt l0 l1 σ Q → vX10_byteAt l0 l1 σ Q' → wX10_byteAt l0 l1 σ Q'' := by
  intro l0 l1 σ h v
  unfold wX10_byteAt at h
  unfold vX10_byteAt at v
  unfold wX10_byteAt
  refine ⟨?_, ?_⟩
  · have h := h.1
    have v := v.1
    intro e1
    have h := h e1
    have v := v e1
    exact hQ _ _ h v
  · have h := h.2
    have v := v.2
    intro e2
    have h := h e2
    have v := v e2
    refine ⟨h.1, ?_⟩
    have v := v h.1
    have h := h.2
    refine ⟨?_, ?_⟩
    · have h := h.1
      have v := v.1
      intro e4
      have h := h e4
      have v := v e4
      exact hQ _ _ h v
    · have h := h.2
      have v := v.2
      intro e5
      have h := h e5
      have v := v e5
      obtain ⟨a4, e6, h⟩ := h
      refine ⟨a4, e6, ?_⟩
      have v := v a4 e6
      refine ⟨h.1, ?_⟩
      have v := v h.1
      have h := h.2
      obtain ⟨a7, e8, h⟩ := h
      refine ⟨a7, e8, ?_⟩
      have v := v a7 e8
      refine ⟨h.1, ?_⟩
      have v := v h.1
      have h := h.2
      refine ⟨?_, ?_⟩
      · have h := h.1
        have v := v.1
        intro e10
        have h := h e10
        have v := v e10
        exact hQ _ _ h v
      · have h := h.2
        have v := v.2
        intro e11
        have h := h e11
        have v := v e11
        obtain ⟨a11, e12, h⟩ := h
        refine ⟨a11, e12, ?_⟩
        have v := v a11 e12
        refine ⟨h.1, ?_⟩
        have v := v h.1
        have h := h.2
        obtain ⟨a14, e14, h⟩ := h
        refine ⟨a14, e14, ?_⟩
        have v := v a14 e14
        refine ⟨h.1, ?_⟩
        have v := v h.1
        have h := h.2
        refine ⟨h.1, ?_⟩
        have v := v h.1
        have h := h.2
        exact hQ _ _ h v
set_option maxRecDepth 100000 in
set_option maxHeartbeats 4000000 in
theorem jaX10_byteAt {Q Q' : Int32 → kx_S → Prop} (hQ : ∀ y0 y1, Q y0 y1 → Q' y0 y1) : ∀ (l0 : Nat) (l1 : Int32) (σ : kx_S), wX10_byteAt l0 l1 σ Q → vX10_byteAt l0 l1 σ Q' := by
  intro l0 l1 σ h
  unfold wX10_byteAt at h
  unfold vX10_byteAt
  refine ⟨?_, ?_⟩
  · have h := h.1
    intro e1
    have h := h e1
    exact hQ _ _ h
  · have h := h.2
    intro e2
    have h := h e2
    intro e3
    have h := h.2
    refine ⟨?_, ?_⟩
    · have h := h.1
      intro e4
      have h := h e4
      exact hQ _ _ h
    · have h := h.2
      intro e5
      have h := h e5
      obtain ⟨a4', e6, h⟩ := h
      intro a4 e7
      have x9 : a4' = a4 := Option.some.inj (e6.symm.trans e7)
      rw [x9] at h
      intro e8
      have h := h.2
      obtain ⟨a7', e9, h⟩ := h
      intro a7 e10
      have x9 : a7' = a7 := Option.some.inj (e9.symm.trans e10)
      rw [x9] at h
      intro e11
      have h := h.2
      refine ⟨?_, ?_⟩
      · have h := h.1
        intro e12
        have h := h e12
        exact hQ _ _ h
      · have h := h.2
        intro e13
        have h := h e13
        obtain ⟨a11', e14, h⟩ := h
        intro a11 e15
        have x9 : a11' = a11 := Option.some.inj (e14.symm.trans e15)
        rw [x9] at h
        intro e16
        have h := h.2
        obtain ⟨a14', e17, h⟩ := h
        intro a14 e18
        have x9 : a14' = a14 := Option.some.inj (e17.symm.trans e18)
        rw [x9] at h
        intro e19
        have h := h.2
        intro e20
        have h := h.2
        exact hQ _ _ h
set_option maxRecDepth 100000 in
set_option maxHeartbeats 4000000 in
theorem jfX10_byteAt {I : kx_S → Prop} (W : fw_ I []) {Q : Int32 → kx_S → Prop} (hQ : ∀ y0 y1, I y1 → Q y0 y1) : ∀ (l0 : Nat) (l1 : Int32) (σ : kx_S), I σ → vX10_byteAt l0 l1 σ Q := by
  intro l0 l1 σ i
  unfold vX10_byteAt
  refine ⟨?_, ?_⟩
  · intro e1
    exact hQ _ _ i
  · intro e2
    intro e3
    refine ⟨?_, ?_⟩
    · intro e4
      exact hQ _ _ i
    · intro e5
      intro a4 e6
      intro e7
      intro a7 e8
      intro e9
      refine ⟨?_, ?_⟩
      · intro e10
        exact hQ _ _ i
      · intro e11
        intro a11 e12
        intro e13
        intro a14 e14
        intro e15
        intro e16
        exact hQ _ _ i
def vX10_endOfRow_2 (Q : Int32 → kx_S → Prop) : Nat → Nat → Int32 → Int32 → kx_S → Prop
  | 0, _, _, _, _ => True
  | n + 1, l0, l2, l3, σ => xt σ l0 = 12 → (((xi σ 193 l0) ≤ l3 → Q l3 σ) ∧ (¬ ((xi σ 193 l0) ≤ l3) → vX10_byteAt l0 l3 σ (fun r4 σ3 => vX10_kindOf r4 σ3 (fun r6 σ5 => ((¬ r6 = l2 → Q l3 σ5) ∧ (r6 = l2 → ∀ v8 : Int32, v8 = l3 + 1 → vX10_endOfRow_2 Q n l0 l2 v8 σ5))))))
set_option maxRecDepth 100000 in
set_option maxHeartbeats 4000000 in
theorem jcX10_endOfRow_2 {Q Q' Q'' : Int32 → kx_S → Prop} (hQ : ∀ y0 y1, Q y0 y1 → Q' y0 y1 → Q'' y0 y1) : ∀ (n : Nat) (l0 : Nat) (l2 : Int32) (l3 : Int32) (σ : kx_S), wX10_endOfRow_2 Q n l0 l2 l3 σ → vX10_endOfRow_2 Q' n l0 l2 l3 σ → wX10_endOfRow_2 Q'' n l0 l2 l3 σ := by
  intro n
  induction n with
  | zero => intro l0 l2 l3 σ h; exact h.elim
  | succ n ih =>
    intro l0 l2 l3 σ h v
    unfold wX10_endOfRow_2 at h
    unfold vX10_endOfRow_2 at v
    unfold wX10_endOfRow_2
    refine ⟨h.1, ?_⟩
    have v := v h.1
    have h := h.2
    refine ⟨?_, ?_⟩
    · have h := h.1
      have v := v.1
      intro e2
      have h := h e2
      have v := v e2
      exact hQ _ _ h v
    · have h := h.2
      have v := v.2
      intro e3
      have h := h e3
      have v := v e3
      refine jcX10_byteAt ?_ _ _ _ h v
      intro r4 σ3 h v
      refine jcX10_kindOf ?_ _ _ h v
      intro r6 σ5 h v
      refine ⟨?_, ?_⟩
      · have h := h.1
        have v := v.1
        intro e4
        have h := h e4
        have v := v e4
        exact hQ _ _ h v
      · have h := h.2
        have v := v.2
        intro e5
        have h := h e5
        have v := v e5
        intro v8 e6
        have h := h v8 e6
        have v := v v8 e6
        exact ih _ _ _ _ h v
set_option maxRecDepth 100000 in
set_option maxHeartbeats 4000000 in
theorem jaX10_endOfRow_2 {Q Q' : Int32 → kx_S → Prop} (hQ : ∀ y0 y1, Q y0 y1 → Q' y0 y1) : ∀ (n m : Nat) (l0 : Nat) (l2 : Int32) (l3 : Int32) (σ : kx_S), wX10_endOfRow_2 Q n l0 l2 l3 σ → vX10_endOfRow_2 Q' m l0 l2 l3 σ := by
  intro n
  induction n with
  | zero => intro m l0 l2 l3 σ h; exact h.elim
  | succ n ih =>
    intro m l0 l2 l3 σ h
    cases m with
    | zero => exact trivial
    | succ m =>
      unfold wX10_endOfRow_2 at h
      unfold vX10_endOfRow_2
      intro e1
      have h := h.2
      refine ⟨?_, ?_⟩
      · have h := h.1
        intro e2
        have h := h e2
        exact hQ _ _ h
      · have h := h.2
        intro e3
        have h := h e3
        refine jaX10_byteAt ?_ _ _ _ h
        intro r4 σ3 h
        refine jaX10_kindOf ?_ _ _ h
        intro r6 σ5 h
        refine ⟨?_, ?_⟩
        · have h := h.1
          intro e4
          have h := h e4
          exact hQ _ _ h
        · have h := h.2
          intro e5
          have h := h e5
          intro v8 e6
          have h := h v8 e6
          exact ih m _ _ _ _ h
set_option maxRecDepth 100000 in
set_option maxHeartbeats 4000000 in
theorem jfX10_endOfRow_2 {I : kx_S → Prop} (W : fw_ I []) {Q : Int32 → kx_S → Prop} (hQ : ∀ y0 y1, I y1 → Q y0 y1) : ∀ (n : Nat) (l0 : Nat) (l2 : Int32) (l3 : Int32) (σ : kx_S), I σ → vX10_endOfRow_2 Q n l0 l2 l3 σ := by
  intro n
  induction n with
  | zero => intro l0 l2 l3 σ i; exact trivial
  | succ n ih =>
    intro l0 l2 l3 σ i
    unfold vX10_endOfRow_2
    intro e1
    refine ⟨?_, ?_⟩
    · intro e2
      exact hQ _ _ i
    · intro e3
      refine jfX10_byteAt (I := I) (fw_sub W (by decide)) ?_ _ _ _ i
      intro r4 σ3 iσ3
      refine jfX10_kindOf (I := I) (fw_sub W (by decide)) ?_ _ _ iσ3
      intro r6 σ5 iσ5
      refine ⟨?_, ?_⟩
      · intro e4
        exact hQ _ _ iσ5
      · intro e5
        intro v8 e6
        exact ih _ _ _ _ iσ5
def vX10_endOfRow (l0 : Nat) (l1 : Int32) (l2 : Int32) (σ : kx_S) (Q : Int32 → kx_S → Prop) : Prop := ∀ j, vX10_endOfRow_2 Q j l0 l2 l1 σ
set_option maxRecDepth 100000 in
set_option maxHeartbeats 4000000 in
theorem jcX10_endOfRow {Q Q' Q'' : Int32 → kx_S → Prop} (hQ : ∀ y0 y1, Q y0 y1 → Q' y0 y1 → Q'' y0 y1) : ∀ (l0 : Nat) (l1 : Int32) (l2 : Int32) (σ : kx_S), wX10_endOfRow l0 l1 l2 σ Q → vX10_endOfRow l0 l1 l2 σ Q' → wX10_endOfRow l0 l1 l2 σ Q'' := by
  intro l0 l1 l2 σ h v
  unfold wX10_endOfRow at h
  unfold vX10_endOfRow at v
  unfold wX10_endOfRow
  obtain ⟨j, h⟩ := h
  refine ⟨j, ?_⟩
  have v := v j
  exact jcX10_endOfRow_2 hQ _ _ _ _ _ h v
set_option maxRecDepth 100000 in
set_option maxHeartbeats 4000000 in
theorem jaX10_endOfRow {Q Q' : Int32 → kx_S → Prop} (hQ : ∀ y0 y1, Q y0 y1 → Q' y0 y1) : ∀ (l0 : Nat) (l1 : Int32) (l2 : Int32) (σ : kx_S), wX10_endOfRow l0 l1 l2 σ Q → vX10_endOfRow l0 l1 l2 σ Q' := by
  intro l0 l1 l2 σ h
  unfold wX10_endOfRow at h
  unfold vX10_endOfRow
  obtain ⟨j, h⟩ := h
  intro j9
  exact jaX10_endOfRow_2 hQ _ j9 _ _ _ _ h
set_option maxRecDepth 100000 in
set_option maxHeartbeats 4000000 in
theorem jfX10_endOfRow {I : kx_S → Prop} (W : fw_ I []) {Q : Int32 → kx_S → Prop} (hQ : ∀ y0 y1, I y1 → Q y0 y1) : ∀ (l0 : Nat) (l1 : Int32) (l2 : Int32) (σ : kx_S), I σ → vX10_endOfRow l0 l1 l2 σ Q := by
  intro l0 l1 l2 σ i
  unfold vX10_endOfRow
  intro j
  exact jfX10_endOfRow_2 (I := I) (fw_sub W (by decide)) hQ _ _ _ _ _ i
def vX10_advance_44 (k80 : Nat → kx_S → Prop) (Q : kx_S → Prop) (l0 : Nat) (σ : kx_S) : Prop := xt σ l0 = 12 → vX10_endOfRow l0 (xi σ 195 l0) (xi σ 196 l0) σ (fun r3 σ2 => xt σ2 l0 = 12 → ∀ σ5, σ5 = xsi σ2 194 l0 r3 → k80 l0 σ5)
set_option maxRecDepth 100000 in
set_option maxHeartbeats 4000000 in
theorem jcX10_advance_44 {k80 k80' k80'' : Nat → kx_S → Prop} (hk80 : ∀ y0 y1, k80 y0 y1 → k80' y0 y1 → k80'' y0 y1) {Q Q' Q'' : kx_S → Prop} (hQ : ∀ y0, Q y0 → Q' y0 → Q'' y0) : ∀ (l0 : Nat) (σ : kx_S), wX10_advance_44 k80 Q l0 σ → vX10_advance_44 k80' Q' l0 σ → wX10_advance_44 k80'' Q'' l0 σ := by
  intro l0 σ h v
  unfold wX10_advance_44 at h
  unfold vX10_advance_44 at v
  unfold wX10_advance_44
  refine ⟨h.1, ?_⟩
  have v := v h.1
  have h := h.2
  refine jcX10_endOfRow ?_ _ _ _ _ h v
  intro r3 σ2 h v
  refine ⟨h.1, ?_⟩
  have v := v h.1
  have h := h.2
  intro σ5 e3
  have h := h σ5 e3
  have v := v σ5 e3
  exact hk80 _ _ h v
set_option maxRecDepth 100000 in
set_option maxHeartbeats 4000000 in
theorem jaX10_advance_44 {k80 k80' : Nat → kx_S → Prop} (hk80 : ∀ y0 y1, k80 y0 y1 → k80' y0 y1) {Q Q' : kx_S → Prop} (hQ : ∀ y0, Q y0 → Q' y0) : ∀ (l0 : Nat) (σ : kx_S), wX10_advance_44 k80 Q l0 σ → vX10_advance_44 k80' Q' l0 σ := by
  intro l0 σ h
  unfold wX10_advance_44 at h
  unfold vX10_advance_44
  intro e1
  have h := h.2
  refine jaX10_endOfRow ?_ _ _ _ _ h
  intro r3 σ2 h
  intro e2
  have h := h.2
  intro σ5 e3
  have h := h σ5 e3
  exact hk80 _ _ h
set_option maxRecDepth 100000 in
set_option maxHeartbeats 4000000 in
theorem jfX10_advance_44 {I : kx_S → Prop} (W : fw_ I [194]) {k80 : Nat → kx_S → Prop} (hk80 : ∀ y0 y1, I y1 → k80 y0 y1) {Q : kx_S → Prop} (hQ : ∀ y0, I y0 → Q y0) : ∀ (l0 : Nat) (σ : kx_S), I σ → vX10_advance_44 k80 Q l0 σ := by
  intro l0 σ i
  unfold vX10_advance_44
  intro e1
  refine jfX10_endOfRow (I := I) (fw_sub W (by decide)) ?_ _ _ _ _ i
  intro r3 σ2 iσ2
  intro e2
  intro σ5 e3
  have iσ5 : I σ5 := by rw [e3]; exact ((W _ iσ2).1 194 (by decide)).1 _ _
  exact hk80 _ _ iσ5
def vX10_advance_80 (Q : kx_S → Prop) (l0 : Nat) (σ : kx_S) : Prop := xt σ l0 = 12 → ((¬ (xi σ 196 l0) = 2 → Q σ) ∧ ((xi σ 196 l0) = 2 → ((((xi σ 194 l0) - (xi σ 195 l0)) ≤ 6 → Q σ) ∧ (¬ (((xi σ 194 l0) - (xi σ 195 l0)) ≤ 6) → ∀ σ10, σ10 = xsi σ 196 l0 3 → Q σ10))))
set_option maxRecDepth 100000 in
set_option maxHeartbeats 4000000 in
theorem jcX10_advance_80 {Q Q' Q'' : kx_S → Prop} (hQ : ∀ y0, Q y0 → Q' y0 → Q'' y0) : ∀ (l0 : Nat) (σ : kx_S), wX10_advance_80 Q l0 σ → vX10_advance_80 Q' l0 σ → wX10_advance_80 Q'' l0 σ := by
  intro l0 σ h v
  unfold wX10_advance_80 at h
  unfold vX10_advance_80 at v
  unfold wX10_advance_80
  refine ⟨h.1, ?_⟩
  have v := v h.1
  have h := h.2
  refine ⟨?_, ?_⟩
  · have h := h.1
    have v := v.1
    intro e2
    have h := h e2
    have v := v e2
    exact hQ _ h v
  · have h := h.2
    have v := v.2
    intro e3
    have h := h e3
    have v := v e3
    refine ⟨?_, ?_⟩
    · have h := h.1
      have v := v.1
      intro e4
      have h := h e4
      have v := v e4
      exact hQ _ h v
    · have h := h.2
      have v := v.2
      intro e5
      have h := h e5
      have v := v e5
      intro σ10 e6
      have h := h σ10 e6
      have v := v σ10 e6
      exact hQ _ h v
set_option maxRecDepth 100000 in
set_option maxHeartbeats 4000000 in
theorem jaX10_advance_80 {Q Q' : kx_S → Prop} (hQ : ∀ y0, Q y0 → Q' y0) : ∀ (l0 : Nat) (σ : kx_S), wX10_advance_80 Q l0 σ → vX10_advance_80 Q' l0 σ := by
  intro l0 σ h
  unfold wX10_advance_80 at h
  unfold vX10_advance_80
  intro e1
  have h := h.2
  refine ⟨?_, ?_⟩
  · have h := h.1
    intro e2
    have h := h e2
    exact hQ _ h
  · have h := h.2
    intro e3
    have h := h e3
    refine ⟨?_, ?_⟩
    · have h := h.1
      intro e4
      have h := h e4
      exact hQ _ h
    · have h := h.2
      intro e5
      have h := h e5
      intro σ10 e6
      have h := h σ10 e6
      exact hQ _ h
set_option maxRecDepth 100000 in
set_option maxHeartbeats 4000000 in
theorem jfX10_advance_80 {I : kx_S → Prop} (W : fw_ I [196]) {Q : kx_S → Prop} (hQ : ∀ y0, I y0 → Q y0) : ∀ (l0 : Nat) (σ : kx_S), I σ → vX10_advance_80 Q l0 σ := by
  intro l0 σ i
  unfold vX10_advance_80
  intro e1
  refine ⟨?_, ?_⟩
  · intro e2
    exact hQ _ i
  · intro e3
    refine ⟨?_, ?_⟩
    · intro e4
      exact hQ _ i
    · intro e5
      intro σ10 e6
      have iσ10 : I σ10 := by rw [e6]; exact ((W _ i).1 196 (by decide)).1 _ _
      exact hQ _ iσ10
def vX10_advance (l0 : Nat) (σ : kx_S) (Q : kx_S → Prop) : Prop := xt σ l0 = 12 → vX10_endOfRow l0 (xi σ 194 l0) 5 σ (fun r14 σ13 => xt σ13 l0 = 12 → ∀ σ16, σ16 = xsi σ13 195 l0 r14 → vX10_byteAt l0 (xi σ16 195 l0) σ16 (fun r19 σ18 => vX10_kindOf r19 σ18 (fun r21 σ20 => xt σ20 l0 = 12 → ∀ σ23, σ23 = xsi σ20 196 l0 r21 → (((xi σ23 196 l0) = 1 → vX10_advance_44 (vX10_advance_80 Q) Q l0 σ23) ∧ (¬ ((xi σ23 196 l0) = 1) → ((¬ (xi σ23 196 l0) = 2 → ∀ v27, v27 = (if (xi σ23 193 l0) < ((xi σ23 195 l0) + 1) then (xi σ23 193 l0) else ((xi σ23 195 l0) + 1)) → ∀ σ28, σ28 = xsi σ23 194 l0 v27 → vX10_advance_80 Q l0 σ28) ∧ ((xi σ23 196 l0) = 2 → vX10_advance_44 (vX10_advance_80 Q) Q l0 σ23)))))))
set_option maxRecDepth 100000 in
set_option maxHeartbeats 4000000 in
theorem jcX10_advance {Q Q' Q'' : kx_S → Prop} (hQ : ∀ y0, Q y0 → Q' y0 → Q'' y0) : ∀ (l0 : Nat) (σ : kx_S), wX10_advance l0 σ Q → vX10_advance l0 σ Q' → wX10_advance l0 σ Q'' := by
  intro l0 σ h v
  unfold wX10_advance at h
  unfold vX10_advance at v
  unfold wX10_advance
  refine ⟨h.1, ?_⟩
  have v := v h.1
  have h := h.2
  refine jcX10_endOfRow ?_ _ _ _ _ h v
  intro r14 σ13 h v
  refine ⟨h.1, ?_⟩
  have v := v h.1
  have h := h.2
  intro σ16 e3
  have h := h σ16 e3
  have v := v σ16 e3
  refine jcX10_byteAt ?_ _ _ _ h v
  intro r19 σ18 h v
  refine jcX10_kindOf ?_ _ _ h v
  intro r21 σ20 h v
  refine ⟨h.1, ?_⟩
  have v := v h.1
  have h := h.2
  intro σ23 e5
  have h := h σ23 e5
  have v := v σ23 e5
  refine ⟨?_, ?_⟩
  · have h := h.1
    have v := v.1
    intro e6
    have h := h e6
    have v := v e6
    exact jcX10_advance_44 (k80 := wX10_advance_80 Q) (k80' := vX10_advance_80 Q') (k80'' := wX10_advance_80 Q'') (fun _ _ h v => jcX10_advance_80 hQ _ _ h v) hQ _ _ h v
  · have h := h.2
    have v := v.2
    intro e7
    have h := h e7
    have v := v e7
    refine ⟨?_, ?_⟩
    · have h := h.1
      have v := v.1
      intro e8
      have h := h e8
      have v := v e8
      intro v27 e9
      have h := h v27 e9
      have v := v v27 e9
      intro σ28 e10
      have h := h σ28 e10
      have v := v σ28 e10
      exact jcX10_advance_80 hQ _ _ h v
    · have h := h.2
      have v := v.2
      intro e11
      have h := h e11
      have v := v e11
      exact jcX10_advance_44 (k80 := wX10_advance_80 Q) (k80' := vX10_advance_80 Q') (k80'' := wX10_advance_80 Q'') (fun _ _ h v => jcX10_advance_80 hQ _ _ h v) hQ _ _ h v
set_option maxRecDepth 100000 in
set_option maxHeartbeats 4000000 in
theorem jaX10_advance {Q Q' : kx_S → Prop} (hQ : ∀ y0, Q y0 → Q' y0) : ∀ (l0 : Nat) (σ : kx_S), wX10_advance l0 σ Q → vX10_advance l0 σ Q' := by
  intro l0 σ h
  unfold wX10_advance at h
  unfold vX10_advance
  intro e1
  have h := h.2
  refine jaX10_endOfRow ?_ _ _ _ _ h
  intro r14 σ13 h
  intro e2
  have h := h.2
  intro σ16 e3
  have h := h σ16 e3
  refine jaX10_byteAt ?_ _ _ _ h
  intro r19 σ18 h
  refine jaX10_kindOf ?_ _ _ h
  intro r21 σ20 h
  intro e4
  have h := h.2
  intro σ23 e5
  have h := h σ23 e5
  refine ⟨?_, ?_⟩
  · have h := h.1
    intro e6
    have h := h e6
    exact jaX10_advance_44 (k80 := wX10_advance_80 Q) (k80' := vX10_advance_80 Q') (fun _ _ h => jaX10_advance_80 hQ _ _ h) hQ _ _ h
  · have h := h.2
    intro e7
    have h := h e7
    refine ⟨?_, ?_⟩
    · have h := h.1
      intro e8
      have h := h e8
      intro v27 e9
      have h := h v27 e9
      intro σ28 e10
      have h := h σ28 e10
      exact jaX10_advance_80 hQ _ _ h
    · have h := h.2
      intro e11
      have h := h e11
      exact jaX10_advance_44 (k80 := wX10_advance_80 Q) (k80' := vX10_advance_80 Q') (fun _ _ h => jaX10_advance_80 hQ _ _ h) hQ _ _ h
set_option maxRecDepth 100000 in
set_option maxHeartbeats 4000000 in
theorem jfX10_advance {I : kx_S → Prop} (W : fw_ I [194, 195, 196]) {Q : kx_S → Prop} (hQ : ∀ y0, I y0 → Q y0) : ∀ (l0 : Nat) (σ : kx_S), I σ → vX10_advance l0 σ Q := by
  intro l0 σ i
  unfold vX10_advance
  intro e1
  refine jfX10_endOfRow (I := I) (fw_sub W (by decide)) ?_ _ _ _ _ i
  intro r14 σ13 iσ13
  intro e2
  intro σ16 e3
  have iσ16 : I σ16 := by rw [e3]; exact ((W _ iσ13).1 195 (by decide)).1 _ _
  refine jfX10_byteAt (I := I) (fw_sub W (by decide)) ?_ _ _ _ iσ16
  intro r19 σ18 iσ18
  refine jfX10_kindOf (I := I) (fw_sub W (by decide)) ?_ _ _ iσ18
  intro r21 σ20 iσ20
  intro e4
  intro σ23 e5
  have iσ23 : I σ23 := by rw [e5]; exact ((W _ iσ20).1 196 (by decide)).1 _ _
  refine ⟨?_, ?_⟩
  · intro e6
    exact jfX10_advance_44 (I := I) (fw_sub W (by decide)) (k80 := vX10_advance_80 Q) (fun _ _ i => jfX10_advance_80 (I := I) (fw_sub W (by decide)) hQ _ _ i) hQ _ _ iσ23
  · intro e7
    refine ⟨?_, ?_⟩
    · intro e8
      intro v27 e9
      intro σ28 e10
      have iσ28 : I σ28 := by rw [e10]; exact ((W _ iσ23).1 194 (by decide)).1 _ _
      exact jfX10_advance_80 (I := I) (fw_sub W (by decide)) hQ _ _ iσ28
    · intro e11
      exact jfX10_advance_44 (I := I) (fw_sub W (by decide)) (k80 := vX10_advance_80 Q) (fun _ _ i => jfX10_advance_80 (I := I) (fw_sub W (by decide)) hQ _ _ i) hQ _ _ iσ23
def vX10_openText (l0 : Nat) (l1 : Int32) (σ : kx_S) (Q : kx_S → Prop) : Prop := xt σ l0 = 12 → ∀ σ2, σ2 = xsi σ 193 l0 l1 → ∀ σ4, σ4 = xsi σ2 194 l0 0 → vX10_advance l0 σ4 (fun σ6 => Q σ6)
set_option maxRecDepth 100000 in
set_option maxHeartbeats 4000000 in
theorem jcX10_openText {Q Q' Q'' : kx_S → Prop} (hQ : ∀ y0, Q y0 → Q' y0 → Q'' y0) : ∀ (l0 : Nat) (l1 : Int32) (σ : kx_S), wX10_openText l0 l1 σ Q → vX10_openText l0 l1 σ Q' → wX10_openText l0 l1 σ Q'' := by
  intro l0 l1 σ h v
  unfold wX10_openText at h
  unfold vX10_openText at v
  unfold wX10_openText
  refine ⟨h.1, ?_⟩
  have v := v h.1
  have h := h.2
  intro σ2 e2
  have h := h σ2 e2
  have v := v σ2 e2
  intro σ4 e3
  have h := h σ4 e3
  have v := v σ4 e3
  refine jcX10_advance ?_ _ _ h v
  intro σ6 h v
  exact hQ _ h v
set_option maxRecDepth 100000 in
set_option maxHeartbeats 4000000 in
theorem jaX10_openText {Q Q' : kx_S → Prop} (hQ : ∀ y0, Q y0 → Q' y0) : ∀ (l0 : Nat) (l1 : Int32) (σ : kx_S), wX10_openText l0 l1 σ Q → vX10_openText l0 l1 σ Q' := by
  intro l0 l1 σ h
  unfold wX10_openText at h
  unfold vX10_openText
  intro e1
  have h := h.2
  intro σ2 e2
  have h := h σ2 e2
  intro σ4 e3
  have h := h σ4 e3
  refine jaX10_advance ?_ _ _ h
  intro σ6 h
  exact hQ _ h
set_option maxRecDepth 100000 in
set_option maxHeartbeats 4000000 in
theorem jfX10_openText {I : kx_S → Prop} (W : fw_ I [193, 194, 195, 196]) {Q : kx_S → Prop} (hQ : ∀ y0, I y0 → Q y0) : ∀ (l0 : Nat) (l1 : Int32) (σ : kx_S), I σ → vX10_openText l0 l1 σ Q := by
  intro l0 l1 σ i
  unfold vX10_openText
  intro e1
  intro σ2 e2
  have iσ2 : I σ2 := by rw [e2]; exact ((W _ i).1 193 (by decide)).1 _ _
  intro σ4 e3
  have iσ4 : I σ4 := by rw [e3]; exact ((W _ iσ2).1 194 (by decide)).1 _ _
  refine jfX10_advance (I := I) (fw_sub W (by decide)) ?_ _ _ iσ4
  intro σ6 iσ6
  exact hQ _ iσ6
def vX10_isWord_28 (Q : Int32 → kx_S → Prop) : Nat → Nat → Nat → Int32 → kx_S → Prop
  | 0, _, _, _, _ => True
  | n + 1, l0, l1, l2, σ => l1 < 12 → (((nI (ks_len.getD l1 0)) ≤ l2 → Q 1 σ) ∧ (¬ ((nI (ks_len.getD l1 0)) ≤ l2) → xt σ l0 = 12 → vX10_byteAt l0 ((xi σ 195 l0) + l2) σ (fun r5 σ4 => l1 < 12 → vp_in l2 (ks_len.getD l1 0) → ((r5 = ((ks_byt.getD l1 []).getD l2.toNatClampNeg 0) → ∀ v9 : Int32, v9 = l2 + 1 → vX10_isWord_28 Q n l0 l1 v9 σ4) ∧ (¬ (r5 = ((ks_byt.getD l1 []).getD l2.toNatClampNeg 0)) → Q 0 σ4)))))
set_option maxRecDepth 100000 in
set_option maxHeartbeats 4000000 in
theorem jcX10_isWord_28 {Q Q' Q'' : Int32 → kx_S → Prop} (hQ : ∀ y0 y1, Q y0 y1 → Q' y0 y1 → Q'' y0 y1) : ∀ (n : Nat) (l0 : Nat) (l1 : Nat) (l2 : Int32) (σ : kx_S), wX10_isWord_28 Q n l0 l1 l2 σ → vX10_isWord_28 Q' n l0 l1 l2 σ → wX10_isWord_28 Q'' n l0 l1 l2 σ := by
  intro n
  induction n with
  | zero => intro l0 l1 l2 σ h; exact h.elim
  | succ n ih =>
    intro l0 l1 l2 σ h v
    unfold wX10_isWord_28 at h
    unfold vX10_isWord_28 at v
    unfold wX10_isWord_28
    refine ⟨h.1, ?_⟩
    have v := v h.1
    have h := h.2
    refine ⟨?_, ?_⟩
    · have h := h.1
      have v := v.1
      intro e2
      have h := h e2
      have v := v e2
      exact hQ _ _ h v
    · have h := h.2
      have v := v.2
      intro e3
      have h := h e3
      have v := v e3
      refine ⟨h.1, ?_⟩
      have v := v h.1
      have h := h.2
      refine jcX10_byteAt ?_ _ _ _ h v
      intro r5 σ4 h v
      refine ⟨h.1, ?_⟩
      have v := v h.1
      have h := h.2
      refine ⟨h.1, ?_⟩
      have v := v h.1
      have h := h.2
      refine ⟨?_, ?_⟩
      · have h := h.1
        have v := v.1
        intro e7
        have h := h e7
        have v := v e7
        intro v9 e8
        have h := h v9 e8
        have v := v v9 e8
        exact ih _ _ _ _ h v
      · have h := h.2
        have v := v.2
        intro e9
        have h := h e9
        have v := v e9
        exact hQ _ _ h v
set_option maxRecDepth 100000 in
set_option maxHeartbeats 4000000 in
theorem jaX10_isWord_28 {Q Q' : Int32 → kx_S → Prop} (hQ : ∀ y0 y1, Q y0 y1 → Q' y0 y1) : ∀ (n m : Nat) (l0 : Nat) (l1 : Nat) (l2 : Int32) (σ : kx_S), wX10_isWord_28 Q n l0 l1 l2 σ → vX10_isWord_28 Q' m l0 l1 l2 σ := by
  intro n
  induction n with
  | zero => intro m l0 l1 l2 σ h; exact h.elim
  | succ n ih =>
    intro m l0 l1 l2 σ h
    cases m with
    | zero => exact trivial
    | succ m =>
      unfold wX10_isWord_28 at h
      unfold vX10_isWord_28
      intro e1
      have h := h.2
      refine ⟨?_, ?_⟩
      · have h := h.1
        intro e2
        have h := h e2
        exact hQ _ _ h
      · have h := h.2
        intro e3
        have h := h e3
        intro e4
        have h := h.2
        refine jaX10_byteAt ?_ _ _ _ h
        intro r5 σ4 h
        intro e5
        have h := h.2
        intro e6
        have h := h.2
        refine ⟨?_, ?_⟩
        · have h := h.1
          intro e7
          have h := h e7
          intro v9 e8
          have h := h v9 e8
          exact ih m _ _ _ _ h
        · have h := h.2
          intro e9
          have h := h e9
          exact hQ _ _ h
set_option maxRecDepth 100000 in
set_option maxHeartbeats 4000000 in
theorem jfX10_isWord_28 {I : kx_S → Prop} (W : fw_ I []) {Q : Int32 → kx_S → Prop} (hQ : ∀ y0 y1, I y1 → Q y0 y1) : ∀ (n : Nat) (l0 : Nat) (l1 : Nat) (l2 : Int32) (σ : kx_S), I σ → vX10_isWord_28 Q n l0 l1 l2 σ := by
  intro n
  induction n with
  | zero => intro l0 l1 l2 σ i; exact trivial
  | succ n ih =>
    intro l0 l1 l2 σ i
    unfold vX10_isWord_28
    intro e1
    refine ⟨?_, ?_⟩
    · intro e2
      exact hQ _ _ i
    · intro e3
      intro e4
      refine jfX10_byteAt (I := I) (fw_sub W (by decide)) ?_ _ _ _ i
      intro r5 σ4 iσ4
      intro e5
      intro e6
      refine ⟨?_, ?_⟩
      · intro e7
        intro v9 e8
        exact ih _ _ _ _ iσ4
      · intro e9
        exact hQ _ _ iσ4
end
section
def vX10_isWord (l0 : Nat) (l1 : Nat) (σ : kx_S) (Q : Int32 → kx_S → Prop) : Prop := xt σ l0 = 12 → ((¬ (xi σ 196 l0) = 1 → Q 0 σ) ∧ ((xi σ 196 l0) = 1 → l1 < 12 → ((((xi σ 194 l0) - (xi σ 195 l0)) = (nI (ks_len.getD l1 0)) → ∀ j, vX10_isWord_28 Q j l0 l1 0 σ) ∧ (¬ (((xi σ 194 l0) - (xi σ 195 l0)) = (nI (ks_len.getD l1 0))) → Q 0 σ))))
set_option maxRecDepth 100000 in
set_option maxHeartbeats 4000000 in
theorem jcX10_isWord {Q Q' Q'' : Int32 → kx_S → Prop} (hQ : ∀ y0 y1, Q y0 y1 → Q' y0 y1 → Q'' y0 y1) : ∀ (l0 : Nat) (l1 : Nat) (σ : kx_S), wX10_isWord l0 l1 σ Q → vX10_isWord l0 l1 σ Q' → wX10_isWord l0 l1 σ Q'' := by
  intro l0 l1 σ h v
  unfold wX10_isWord at h
  unfold vX10_isWord at v
  unfold wX10_isWord
  refine ⟨h.1, ?_⟩
  have v := v h.1
  have h := h.2
  refine ⟨?_, ?_⟩
  · have h := h.1
    have v := v.1
    intro e2
    have h := h e2
    have v := v e2
    exact hQ _ _ h v
  · have h := h.2
    have v := v.2
    intro e3
    have h := h e3
    have v := v e3
    refine ⟨h.1, ?_⟩
    have v := v h.1
    have h := h.2
    refine ⟨?_, ?_⟩
    · have h := h.1
      have v := v.1
      intro e5
      have h := h e5
      have v := v e5
      obtain ⟨j, h⟩ := h
      refine ⟨j, ?_⟩
      have v := v j
      exact jcX10_isWord_28 hQ _ _ _ _ _ h v
    · have h := h.2
      have v := v.2
      intro e6
      have h := h e6
      have v := v e6
      exact hQ _ _ h v
set_option maxRecDepth 100000 in
set_option maxHeartbeats 4000000 in
theorem jaX10_isWord {Q Q' : Int32 → kx_S → Prop} (hQ : ∀ y0 y1, Q y0 y1 → Q' y0 y1) : ∀ (l0 : Nat) (l1 : Nat) (σ : kx_S), wX10_isWord l0 l1 σ Q → vX10_isWord l0 l1 σ Q' := by
  intro l0 l1 σ h
  unfold wX10_isWord at h
  unfold vX10_isWord
  intro e1
  have h := h.2
  refine ⟨?_, ?_⟩
  · have h := h.1
    intro e2
    have h := h e2
    exact hQ _ _ h
  · have h := h.2
    intro e3
    have h := h e3
    intro e4
    have h := h.2
    refine ⟨?_, ?_⟩
    · have h := h.1
      intro e5
      have h := h e5
      obtain ⟨j, h⟩ := h
      intro j9
      exact jaX10_isWord_28 hQ _ j9 _ _ _ _ h
    · have h := h.2
      intro e6
      have h := h e6
      exact hQ _ _ h
set_option maxRecDepth 100000 in
set_option maxHeartbeats 4000000 in
theorem jfX10_isWord {I : kx_S → Prop} (W : fw_ I []) {Q : Int32 → kx_S → Prop} (hQ : ∀ y0 y1, I y1 → Q y0 y1) : ∀ (l0 : Nat) (l1 : Nat) (σ : kx_S), I σ → vX10_isWord l0 l1 σ Q := by
  intro l0 l1 σ i
  unfold vX10_isWord
  intro e1
  refine ⟨?_, ?_⟩
  · intro e2
    exact hQ _ _ i
  · intro e3
    intro e4
    refine ⟨?_, ?_⟩
    · intro e5
      intro j
      exact jfX10_isWord_28 (I := I) (fw_sub W (by decide)) hQ _ _ _ _ _ i
    · intro e6
      exact hQ _ _ i
def vX10_numberValue_7 (Q : Int32 → kx_S → Prop) : Nat → Nat → Int32 → Int32 → kx_S → Prop
  | 0, _, _, _, _ => True
  | n + 1, l0, l1, l2, σ => xt σ l0 = 12 → (((xi σ 194 l0) ≤ l2 → Q l1 σ) ∧ (¬ ((xi σ 194 l0) ≤ l2) → vX10_byteAt l0 l2 σ (fun r4 σ3 => ∀ v5, v5 = ((l1 * 10) + r4) - 48 → ∀ v6 : Int32, v6 = l2 + 1 → vX10_numberValue_7 Q n l0 v5 v6 σ3)))
set_option maxRecDepth 100000 in
set_option maxHeartbeats 4000000 in
theorem jcX10_numberValue_7 {Q Q' Q'' : Int32 → kx_S → Prop} (hQ : ∀ y0 y1, Q y0 y1 → Q' y0 y1 → Q'' y0 y1) : ∀ (n : Nat) (l0 : Nat) (l1 : Int32) (l2 : Int32) (σ : kx_S), wX10_numberValue_7 Q n l0 l1 l2 σ → vX10_numberValue_7 Q' n l0 l1 l2 σ → wX10_numberValue_7 Q'' n l0 l1 l2 σ := by
  intro n
  induction n with
  | zero => intro l0 l1 l2 σ h; exact h.elim
  | succ n ih =>
    intro l0 l1 l2 σ h v
    unfold wX10_numberValue_7 at h
    unfold vX10_numberValue_7 at v
    unfold wX10_numberValue_7
    refine ⟨h.1, ?_⟩
    have v := v h.1
    have h := h.2
    refine ⟨?_, ?_⟩
    · have h := h.1
      have v := v.1
      intro e2
      have h := h e2
      have v := v e2
      exact hQ _ _ h v
    · have h := h.2
      have v := v.2
      intro e3
      have h := h e3
      have v := v e3
      refine jcX10_byteAt ?_ _ _ _ h v
      intro r4 σ3 h v
      intro v5 e4
      have h := h v5 e4
      have v := v v5 e4
      intro v6 e5
      have h := h v6 e5
      have v := v v6 e5
      exact ih _ _ _ _ h v
set_option maxRecDepth 100000 in
set_option maxHeartbeats 4000000 in
theorem jaX10_numberValue_7 {Q Q' : Int32 → kx_S → Prop} (hQ : ∀ y0 y1, Q y0 y1 → Q' y0 y1) : ∀ (n m : Nat) (l0 : Nat) (l1 : Int32) (l2 : Int32) (σ : kx_S), wX10_numberValue_7 Q n l0 l1 l2 σ → vX10_numberValue_7 Q' m l0 l1 l2 σ := by
  intro n
  induction n with
  | zero => intro m l0 l1 l2 σ h; exact h.elim
  | succ n ih =>
    intro m l0 l1 l2 σ h
    cases m with
    | zero => exact trivial
    | succ m =>
      unfold wX10_numberValue_7 at h
      unfold vX10_numberValue_7
      intro e1
      have h := h.2
      refine ⟨?_, ?_⟩
      · have h := h.1
        intro e2
        have h := h e2
        exact hQ _ _ h
      · have h := h.2
        intro e3
        have h := h e3
        refine jaX10_byteAt ?_ _ _ _ h
        intro r4 σ3 h
        intro v5 e4
        have h := h v5 e4
        intro v6 e5
        have h := h v6 e5
        exact ih m _ _ _ _ h
set_option maxRecDepth 100000 in
set_option maxHeartbeats 4000000 in
theorem jfX10_numberValue_7 {I : kx_S → Prop} (W : fw_ I []) {Q : Int32 → kx_S → Prop} (hQ : ∀ y0 y1, I y1 → Q y0 y1) : ∀ (n : Nat) (l0 : Nat) (l1 : Int32) (l2 : Int32) (σ : kx_S), I σ → vX10_numberValue_7 Q n l0 l1 l2 σ := by
  intro n
  induction n with
  | zero => intro l0 l1 l2 σ i; exact trivial
  | succ n ih =>
    intro l0 l1 l2 σ i
    unfold vX10_numberValue_7
    intro e1
    refine ⟨?_, ?_⟩
    · intro e2
      exact hQ _ _ i
    · intro e3
      refine jfX10_byteAt (I := I) (fw_sub W (by decide)) ?_ _ _ _ i
      intro r4 σ3 iσ3
      intro v5 e4
      intro v6 e5
      exact ih _ _ _ _ iσ3
def vX10_numberValue (l0 : Nat) (σ : kx_S) (Q : Int32 → kx_S → Prop) : Prop := xt σ l0 = 12 → ∀ v8, v8 = xi σ 195 l0 → ∀ j, vX10_numberValue_7 Q j l0 0 v8 σ
set_option maxRecDepth 100000 in
set_option maxHeartbeats 4000000 in
theorem jcX10_numberValue {Q Q' Q'' : Int32 → kx_S → Prop} (hQ : ∀ y0 y1, Q y0 y1 → Q' y0 y1 → Q'' y0 y1) : ∀ (l0 : Nat) (σ : kx_S), wX10_numberValue l0 σ Q → vX10_numberValue l0 σ Q' → wX10_numberValue l0 σ Q'' := by
  intro l0 σ h v
  unfold wX10_numberValue at h
  unfold vX10_numberValue at v
  unfold wX10_numberValue
  refine ⟨h.1, ?_⟩
  have v := v h.1
  have h := h.2
  intro v8 e2
  have h := h v8 e2
  have v := v v8 e2
  obtain ⟨j, h⟩ := h
  refine ⟨j, ?_⟩
  have v := v j
  exact jcX10_numberValue_7 hQ _ _ _ _ _ h v
set_option maxRecDepth 100000 in
set_option maxHeartbeats 4000000 in
theorem jaX10_numberValue {Q Q' : Int32 → kx_S → Prop} (hQ : ∀ y0 y1, Q y0 y1 → Q' y0 y1) : ∀ (l0 : Nat) (σ : kx_S), wX10_numberValue l0 σ Q → vX10_numberValue l0 σ Q' := by
  intro l0 σ h
  unfold wX10_numberValue at h
  unfold vX10_numberValue
  intro e1
  have h := h.2
  intro v8 e2
  have h := h v8 e2
  obtain ⟨j, h⟩ := h
  intro j9
  exact jaX10_numberValue_7 hQ _ j9 _ _ _ _ h
set_option maxRecDepth 100000 in
set_option maxHeartbeats 4000000 in
theorem jfX10_numberValue {I : kx_S → Prop} (W : fw_ I []) {Q : Int32 → kx_S → Prop} (hQ : ∀ y0 y1, I y1 → Q y0 y1) : ∀ (l0 : Nat) (σ : kx_S), I σ → vX10_numberValue l0 σ Q := by
  intro l0 σ i
  unfold vX10_numberValue
  intro e1
  intro v8 e2
  intro j
  exact jfX10_numberValue_7 (I := I) (fw_sub W (by decide)) hQ _ _ _ _ _ i
def vX5_init (l0 : Nat) (l1 : Nat) (σ : kx_S) (Q : kx_S → Prop) : Prop := xc σ < kx_N → ∀ p2, xt σ p2 = 0 → p2 ≠ xz σ → ∀ σ5, σ5 = xnew σ p2 12 → vX10_init p2 l1 σ5 (fun σ7 => xt σ7 l0 = 7 → ∀ σ9, σ9 = xsr σ7 112 l0 (some p2) → xc σ9 < kx_N → ¬ (500 : Int32) < 0 → (Int32.toNatClampNeg 500) ≤ 600 → ∀ p11, xt σ9 p11 = 0 → p11 ≠ xz σ9 → ∀ σ17, σ17 = xnewA σ9 p11 20 (Int32.toNatClampNeg 500) → xt σ17 l0 = 7 → ∀ σ20, σ20 = xsr σ17 113 l0 (some p11) → Q σ20)
set_option maxRecDepth 100000 in
set_option maxHeartbeats 4000000 in
theorem jcX5_init {Q Q' Q'' : kx_S → Prop} (hQ : ∀ y0, Q y0 → Q' y0 → Q'' y0) : ∀ (l0 : Nat) (l1 : Nat) (σ : kx_S), wX5_init l0 l1 σ Q → vX5_init l0 l1 σ Q' → wX5_init l0 l1 σ Q'' := by
  intro l0 l1 σ h v
  unfold wX5_init at h
  unfold vX5_init at v
  unfold wX5_init
  refine ⟨h.1, ?_⟩
  have v := v h.1
  have h := h.2
  intro p2 e2 e3
  have h := h p2 e2 e3
  have v := v p2 e2 e3
  intro σ5 e4
  have h := h σ5 e4
  have v := v σ5 e4
  refine jcX10_init ?_ _ _ _ h v
  intro σ7 h v
  refine ⟨h.1, ?_⟩
  have v := v h.1
  have h := h.2
  intro σ9 e6
  have h := h σ9 e6
  have v := v σ9 e6
  refine ⟨h.1, ?_⟩
  have v := v h.1
  have h := h.2
  refine ⟨h.1, ?_⟩
  have v := v h.1
  have h := h.2
  refine ⟨h.1, ?_⟩
  have v := v h.1
  have h := h.2
  intro p11 e10 e11
  have h := h p11 e10 e11
  have v := v p11 e10 e11
  intro σ17 e12
  have h := h σ17 e12
  have v := v σ17 e12
  refine ⟨h.1, ?_⟩
  have v := v h.1
  have h := h.2
  intro σ20 e14
  have h := h σ20 e14
  have v := v σ20 e14
  exact hQ _ h v
set_option maxRecDepth 100000 in
set_option maxHeartbeats 4000000 in
theorem jaX5_init {Q Q' : kx_S → Prop} (hQ : ∀ y0, Q y0 → Q' y0) : ∀ (l0 : Nat) (l1 : Nat) (σ : kx_S), wX5_init l0 l1 σ Q → vX5_init l0 l1 σ Q' := by
  intro l0 l1 σ h
  unfold wX5_init at h
  unfold vX5_init
  intro e1
  have h := h.2
  intro p2 e2 e3
  have h := h p2 e2 e3
  intro σ5 e4
  have h := h σ5 e4
  refine jaX10_init ?_ _ _ _ h
  intro σ7 h
  intro e5
  have h := h.2
  intro σ9 e6
  have h := h σ9 e6
  intro e7
  have h := h.2
  intro e8
  have h := h.2
  intro e9
  have h := h.2
  intro p11 e10 e11
  have h := h p11 e10 e11
  intro σ17 e12
  have h := h σ17 e12
  intro e13
  have h := h.2
  intro σ20 e14
  have h := h σ20 e14
  exact hQ _ h
set_option maxRecDepth 100000 in
set_option maxHeartbeats 4000000 in
theorem jfX5_init {I : kx_S → Prop} (W : fw_ I [112, 113, 192, 1112, 1220]) {Q : kx_S → Prop} (hQ : ∀ y0, I y0 → Q y0) : ∀ (l0 : Nat) (l1 : Nat) (σ : kx_S), I σ → vX5_init l0 l1 σ Q := by
  intro l0 l1 σ i
  unfold vX5_init
  intro e1
  intro p2 e2 e3
  intro σ5 e4
  have iσ5 : I σ5 := by rw [e4]; exact (W _ i).2.2.2.2.2.2.1 12 (by decide) _ e2
  refine jfX10_init (I := I) (fw_sub W (by decide)) ?_ _ _ _ iσ5
  intro σ7 iσ7
  intro e5
  intro σ9 e6
  have iσ9 : I σ9 := by rw [e6]; exact ((W _ iσ7).1 112 (by decide)).2.1 _ _
  intro e7
  intro e8
  intro e9
  intro p11 e10 e11
  intro σ17 e12
  have iσ17 : I σ17 := by rw [e12]; exact (W _ iσ9).2.2.2.2.2.2.2 20 (by decide) _ e10 _
  intro e13
  intro σ20 e14
  have iσ20 : I σ20 := by rw [e14]; exact ((W _ iσ17).1 113 (by decide)).2.1 _ _
  exact hQ _ iσ20
def vX5_put (l0 : Nat) (l1 : Int32) (σ : kx_S) (Q : kx_S → Prop) : Prop := xt σ l0 = 7 → ∀ a2, xr σ 113 l0 = some a2 → xt σ a2 = 20 → (((nI (xn σ a2)) ≤ (xi σ 114 l0) → Q σ) ∧ (¬ ((nI (xn σ a2)) ≤ (xi σ 114 l0)) → ∀ a6, xr σ 113 l0 = some a6 → xt σ a6 = 20 → vp_in (xi σ 114 l0) (xn σ a6) → ∀ σ10, σ10 = xsai σ a6 (xi σ 114 l0).toNatClampNeg l1 → ∀ σ14, σ14 = xsi σ10 114 l0 ((xi σ10 114 l0) + 1) → Q σ14))
set_option maxRecDepth 100000 in
set_option maxHeartbeats 4000000 in
theorem jcX5_put {Q Q' Q'' : kx_S → Prop} (hQ : ∀ y0, Q y0 → Q' y0 → Q'' y0) : ∀ (l0 : Nat) (l1 : Int32) (σ : kx_S), wX5_put l0 l1 σ Q → vX5_put l0 l1 σ Q' → wX5_put l0 l1 σ Q'' := by
  intro l0 l1 σ h v
  unfold wX5_put at h
  unfold vX5_put at v
  unfold wX5_put
  refine ⟨h.1, ?_⟩
  have v := v h.1
  have h := h.2
  obtain ⟨a2, e2, h⟩ := h
  refine ⟨a2, e2, ?_⟩
  have v := v a2 e2
  refine ⟨h.1, ?_⟩
  have v := v h.1
  have h := h.2
  refine ⟨?_, ?_⟩
  · have h := h.1
    have v := v.1
    intro e4
    have h := h e4
    have v := v e4
    exact hQ _ h v
  · have h := h.2
    have v := v.2
    intro e5
    have h := h e5
    have v := v e5
    obtain ⟨a6, e6, h⟩ := h
    refine ⟨a6, e6, ?_⟩
    have v := v a6 e6
    refine ⟨h.1, ?_⟩
    have v := v h.1
    have h := h.2
    refine ⟨h.1, ?_⟩
    have v := v h.1
    have h := h.2
    intro σ10 e9
    have h := h σ10 e9
    have v := v σ10 e9
    intro σ14 e10
    have h := h σ14 e10
    have v := v σ14 e10
    exact hQ _ h v
set_option maxRecDepth 100000 in
set_option maxHeartbeats 4000000 in
theorem jaX5_put {Q Q' : kx_S → Prop} (hQ : ∀ y0, Q y0 → Q' y0) : ∀ (l0 : Nat) (l1 : Int32) (σ : kx_S), wX5_put l0 l1 σ Q → vX5_put l0 l1 σ Q' := by
  intro l0 l1 σ h
  unfold wX5_put at h
  unfold vX5_put
  intro e1
  have h := h.2
  obtain ⟨a2', e2, h⟩ := h
  intro a2 e3
  have x9 : a2' = a2 := Option.some.inj (e2.symm.trans e3)
  rw [x9] at h
  intro e4
  have h := h.2
  refine ⟨?_, ?_⟩
  · have h := h.1
    intro e5
    have h := h e5
    exact hQ _ h
  · have h := h.2
    intro e6
    have h := h e6
    obtain ⟨a6', e7, h⟩ := h
    intro a6 e8
    have x9 : a6' = a6 := Option.some.inj (e7.symm.trans e8)
    rw [x9] at h
    intro e9
    have h := h.2
    intro e10
    have h := h.2
    intro σ10 e11
    have h := h σ10 e11
    intro σ14 e12
    have h := h σ14 e12
    exact hQ _ h
set_option maxRecDepth 100000 in
set_option maxHeartbeats 4000000 in
theorem jfX5_put {I : kx_S → Prop} (W : fw_ I [114, 1001]) {Q : kx_S → Prop} (hQ : ∀ y0, I y0 → Q y0) : ∀ (l0 : Nat) (l1 : Int32) (σ : kx_S), I σ → vX5_put l0 l1 σ Q := by
  intro l0 l1 σ i
  unfold vX5_put
  intro e1
  intro a2 e2
  intro e3
  refine ⟨?_, ?_⟩
  · intro e4
    exact hQ _ i
  · intro e5
    intro a6 e6
    intro e7
    intro e8
    intro σ10 e9
    have iσ10 : I σ10 := by rw [e9]; exact (W _ i).2.1 (by decide) _ _ _
    intro σ14 e10
    have iσ14 : I σ14 := by rw [e10]; exact ((W _ iσ10).1 114 (by decide)).1 _ _
    exact hQ _ iσ14
def vX5_fail (l0 : Nat) (l1 : Int32) (σ : kx_S) (Q : kx_S → Prop) : Prop := xt σ l0 = 7 → ((¬ (xi σ 115 l0) = 0 → Q σ) ∧ ((xi σ 115 l0) = 0 → ∀ σ3, σ3 = xsi σ 115 l0 l1 → ∀ a5, xr σ3 112 l0 = some a5 → xt σ3 a5 = 12 → ∀ σ8, σ8 = xsi σ3 116 l0 (xi σ3 195 a5) → Q σ8))
set_option maxRecDepth 100000 in
set_option maxHeartbeats 4000000 in
theorem jcX5_fail {Q Q' Q'' : kx_S → Prop} (hQ : ∀ y0, Q y0 → Q' y0 → Q'' y0) : ∀ (l0 : Nat) (l1 : Int32) (σ : kx_S), wX5_fail l0 l1 σ Q → vX5_fail l0 l1 σ Q' → wX5_fail l0 l1 σ Q'' := by
  intro l0 l1 σ h v
  unfold wX5_fail at h
  unfold vX5_fail at v
  unfold wX5_fail
  refine ⟨h.1, ?_⟩
  have v := v h.1
  have h := h.2
  refine ⟨?_, ?_⟩
  · have h := h.1
    have v := v.1
    intro e2
    have h := h e2
    have v := v e2
    exact hQ _ h v
  · have h := h.2
    have v := v.2
    intro e3
    have h := h e3
    have v := v e3
    intro σ3 e4
    have h := h σ3 e4
    have v := v σ3 e4
    obtain ⟨a5, e5, h⟩ := h
    refine ⟨a5, e5, ?_⟩
    have v := v a5 e5
    refine ⟨h.1, ?_⟩
    have v := v h.1
    have h := h.2
    intro σ8 e7
    have h := h σ8 e7
    have v := v σ8 e7
    exact hQ _ h v
set_option maxRecDepth 100000 in
set_option maxHeartbeats 4000000 in
theorem jaX5_fail {Q Q' : kx_S → Prop} (hQ : ∀ y0, Q y0 → Q' y0) : ∀ (l0 : Nat) (l1 : Int32) (σ : kx_S), wX5_fail l0 l1 σ Q → vX5_fail l0 l1 σ Q' := by
  intro l0 l1 σ h
  unfold wX5_fail at h
  unfold vX5_fail
  intro e1
  have h := h.2
  refine ⟨?_, ?_⟩
  · have h := h.1
    intro e2
    have h := h e2
    exact hQ _ h
  · have h := h.2
    intro e3
    have h := h e3
    intro σ3 e4
    have h := h σ3 e4
    obtain ⟨a5', e5, h⟩ := h
    intro a5 e6
    have x9 : a5' = a5 := Option.some.inj (e5.symm.trans e6)
    rw [x9] at h
    intro e7
    have h := h.2
    intro σ8 e8
    have h := h σ8 e8
    exact hQ _ h
set_option maxRecDepth 100000 in
set_option maxHeartbeats 4000000 in
theorem jfX5_fail {I : kx_S → Prop} (W : fw_ I [115, 116]) {Q : kx_S → Prop} (hQ : ∀ y0, I y0 → Q y0) : ∀ (l0 : Nat) (l1 : Int32) (σ : kx_S), I σ → vX5_fail l0 l1 σ Q := by
  intro l0 l1 σ i
  unfold vX5_fail
  intro e1
  refine ⟨?_, ?_⟩
  · intro e2
    exact hQ _ i
  · intro e3
    intro σ3 e4
    have iσ3 : I σ3 := by rw [e4]; exact ((W _ i).1 115 (by decide)).1 _ _
    intro a5 e5
    intro e6
    intro σ8 e7
    have iσ8 : I σ8 := by rw [e7]; exact ((W _ iσ3).1 116 (by decide)).1 _ _
    exact hQ _ iσ8
def vX5_pass (l0 : Nat) (l1 : Int32) (σ : kx_S) (Q : kx_S → Prop) : Prop := xt σ l0 = 7 → (((xi σ 115 l0) = 0 → ∀ a3, xr σ 112 l0 = some a3 → xt σ a3 = 12 → (((xi σ 196 a3) = l1 → ∀ a7, xr σ 112 l0 = some a7 → xt σ a7 = 12 → vX10_advance a7 σ (fun σ9 => Q σ9)) ∧ (¬ ((xi σ 196 a3) = l1) → vX5_fail l0 1 σ (fun σ11 => Q σ11)))) ∧ (¬ ((xi σ 115 l0) = 0) → Q σ))
set_option maxRecDepth 100000 in
set_option maxHeartbeats 4000000 in
theorem jcX5_pass {Q Q' Q'' : kx_S → Prop} (hQ : ∀ y0, Q y0 → Q' y0 → Q'' y0) : ∀ (l0 : Nat) (l1 : Int32) (σ : kx_S), wX5_pass l0 l1 σ Q → vX5_pass l0 l1 σ Q' → wX5_pass l0 l1 σ Q'' := by
  intro l0 l1 σ h v
  unfold wX5_pass at h
  unfold vX5_pass at v
  unfold wX5_pass
  refine ⟨h.1, ?_⟩
  have v := v h.1
  have h := h.2
  refine ⟨?_, ?_⟩
  · have h := h.1
    have v := v.1
    intro e2
    have h := h e2
    have v := v e2
    obtain ⟨a3, e3, h⟩ := h
    refine ⟨a3, e3, ?_⟩
    have v := v a3 e3
    refine ⟨h.1, ?_⟩
    have v := v h.1
    have h := h.2
    refine ⟨?_, ?_⟩
    · have h := h.1
      have v := v.1
      intro e5
      have h := h e5
      have v := v e5
      obtain ⟨a7, e6, h⟩ := h
      refine ⟨a7, e6, ?_⟩
      have v := v a7 e6
      refine ⟨h.1, ?_⟩
      have v := v h.1
      have h := h.2
      refine jcX10_advance ?_ _ _ h v
      intro σ9 h v
      exact hQ _ h v
    · have h := h.2
      have v := v.2
      intro e8
      have h := h e8
      have v := v e8
      refine jcX5_fail ?_ _ _ _ h v
      intro σ11 h v
      exact hQ _ h v
  · have h := h.2
    have v := v.2
    intro e9
    have h := h e9
    have v := v e9
    exact hQ _ h v
set_option maxRecDepth 100000 in
set_option maxHeartbeats 4000000 in
theorem jaX5_pass {Q Q' : kx_S → Prop} (hQ : ∀ y0, Q y0 → Q' y0) : ∀ (l0 : Nat) (l1 : Int32) (σ : kx_S), wX5_pass l0 l1 σ Q → vX5_pass l0 l1 σ Q' := by
  intro l0 l1 σ h
  unfold wX5_pass at h
  unfold vX5_pass
  intro e1
  have h := h.2
  refine ⟨?_, ?_⟩
  · have h := h.1
    intro e2
    have h := h e2
    obtain ⟨a3', e3, h⟩ := h
    intro a3 e4
    have x9 : a3' = a3 := Option.some.inj (e3.symm.trans e4)
    rw [x9] at h
    intro e5
    have h := h.2
    refine ⟨?_, ?_⟩
    · have h := h.1
      intro e6
      have h := h e6
      obtain ⟨a7', e7, h⟩ := h
      intro a7 e8
      have x9 : a7' = a7 := Option.some.inj (e7.symm.trans e8)
      rw [x9] at h
      intro e9
      have h := h.2
      refine jaX10_advance ?_ _ _ h
      intro σ9 h
      exact hQ _ h
    · have h := h.2
      intro e10
      have h := h e10
      refine jaX5_fail ?_ _ _ _ h
      intro σ11 h
      exact hQ _ h
  · have h := h.2
    intro e11
    have h := h e11
    exact hQ _ h
set_option maxRecDepth 100000 in
set_option maxHeartbeats 4000000 in
theorem jfX5_pass {I : kx_S → Prop} (W : fw_ I [115, 116, 194, 195, 196]) {Q : kx_S → Prop} (hQ : ∀ y0, I y0 → Q y0) : ∀ (l0 : Nat) (l1 : Int32) (σ : kx_S), I σ → vX5_pass l0 l1 σ Q := by
  intro l0 l1 σ i
  unfold vX5_pass
  intro e1
  refine ⟨?_, ?_⟩
  · intro e2
    intro a3 e3
    intro e4
    refine ⟨?_, ?_⟩
    · intro e5
      intro a7 e6
      intro e7
      refine jfX10_advance (I := I) (fw_sub W (by decide)) ?_ _ _ i
      intro σ9 iσ9
      exact hQ _ iσ9
    · intro e8
      refine jfX5_fail (I := I) (fw_sub W (by decide)) ?_ _ _ _ i
      intro σ11 iσ11
      exact hQ _ iσ11
  · intro e9
    exact hQ _ i
def vX5_codeOfName (l0 : Nat) (σ : kx_S) (Q : Int32 → kx_S → Prop) : Prop := xt σ l0 = 7 → ∀ a2, xr σ 112 l0 = some a2 → xt σ a2 = 12 → vX10_isWord a2 0 σ (fun r5 σ4 => ((r5 = 0 → xt σ4 l0 = 7 → ∀ a9, xr σ4 112 l0 = some a9 → xt σ4 a9 = 12 → vX10_isWord a9 1 σ4 (fun r12 σ11 => ((r12 = 0 → xt σ11 l0 = 7 → ∀ a16, xr σ11 112 l0 = some a16 → xt σ11 a16 = 12 → vX10_isWord a16 2 σ11 (fun r19 σ18 => ((r19 = 0 → xt σ18 l0 = 7 → ∀ a23, xr σ18 112 l0 = some a23 → xt σ18 a23 = 12 → vX10_isWord a23 3 σ18 (fun r26 σ25 => ((r26 = 0 → xt σ25 l0 = 7 → ∀ a30, xr σ25 112 l0 = some a30 → xt σ25 a30 = 12 → vX10_isWord a30 4 σ25 (fun r33 σ32 => ((r33 = 0 → xt σ32 l0 = 7 → ∀ a37, xr σ32 112 l0 = some a37 → xt σ32 a37 = 12 → vX10_isWord a37 5 σ32 (fun r40 σ39 => ((r40 = 0 → xt σ39 l0 = 7 → ∀ a44, xr σ39 112 l0 = some a44 → xt σ39 a44 = 12 → vX10_isWord a44 6 σ39 (fun r47 σ46 => ((r47 = 0 → Q 0 σ46) ∧ (¬ (r47 = 0) → Q (-7) σ46)))) ∧ (¬ (r40 = 0) → Q (-6) σ39)))) ∧ (¬ (r33 = 0) → Q (-5) σ32)))) ∧ (¬ (r26 = 0) → Q (-4) σ25)))) ∧ (¬ (r19 = 0) → Q (-3) σ18)))) ∧ (¬ (r12 = 0) → Q (-2) σ11)))) ∧ (¬ (r5 = 0) → Q (-1) σ4)))
set_option maxRecDepth 100000 in
set_option maxHeartbeats 4000000 in
theorem jcX5_codeOfName {Q Q' Q'' : Int32 → kx_S → Prop} (hQ : ∀ y0 y1, Q y0 y1 → Q' y0 y1 → Q'' y0 y1) : ∀ (l0 : Nat) (σ : kx_S), wX5_codeOfName l0 σ Q → vX5_codeOfName l0 σ Q' → wX5_codeOfName l0 σ Q'' := by
  intro l0 σ h v
  unfold wX5_codeOfName at h
  unfold vX5_codeOfName at v
  unfold wX5_codeOfName
  refine ⟨h.1, ?_⟩
  have v := v h.1
  have h := h.2
  obtain ⟨a2, e2, h⟩ := h
  refine ⟨a2, e2, ?_⟩
  have v := v a2 e2
  refine ⟨h.1, ?_⟩
  have v := v h.1
  have h := h.2
  refine jcX10_isWord ?_ _ _ _ h v
  intro r5 σ4 h v
  refine ⟨?_, ?_⟩
  · have h := h.1
    have v := v.1
    intro e4
    have h := h e4
    have v := v e4
    refine ⟨h.1, ?_⟩
    have v := v h.1
    have h := h.2
    obtain ⟨a9, e6, h⟩ := h
    refine ⟨a9, e6, ?_⟩
    have v := v a9 e6
    refine ⟨h.1, ?_⟩
    have v := v h.1
    have h := h.2
    refine jcX10_isWord ?_ _ _ _ h v
    intro r12 σ11 h v
    refine ⟨?_, ?_⟩
    · have h := h.1
      have v := v.1
      intro e8
      have h := h e8
      have v := v e8
      refine ⟨h.1, ?_⟩
      have v := v h.1
      have h := h.2
      obtain ⟨a16, e10, h⟩ := h
      refine ⟨a16, e10, ?_⟩
      have v := v a16 e10
      refine ⟨h.1, ?_⟩
      have v := v h.1
      have h := h.2
      refine jcX10_isWord ?_ _ _ _ h v
      intro r19 σ18 h v
      refine ⟨?_, ?_⟩
      · have h := h.1
        have v := v.1
        intro e12
        have h := h e12
        have v := v e12
        refine ⟨h.1, ?_⟩
        have v := v h.1
        have h := h.2
        obtain ⟨a23, e14, h⟩ := h
        refine ⟨a23, e14, ?_⟩
        have v := v a23 e14
        refine ⟨h.1, ?_⟩
        have v := v h.1
        have h := h.2
        refine jcX10_isWord ?_ _ _ _ h v
        intro r26 σ25 h v
        refine ⟨?_, ?_⟩
        · have h := h.1
          have v := v.1
          intro e16
          have h := h e16
          have v := v e16
          refine ⟨h.1, ?_⟩
          have v := v h.1
          have h := h.2
          obtain ⟨a30, e18, h⟩ := h
          refine ⟨a30, e18, ?_⟩
          have v := v a30 e18
          refine ⟨h.1, ?_⟩
          have v := v h.1
          have h := h.2
          refine jcX10_isWord ?_ _ _ _ h v
          intro r33 σ32 h v
          refine ⟨?_, ?_⟩
          · have h := h.1
            have v := v.1
            intro e20
            have h := h e20
            have v := v e20
            refine ⟨h.1, ?_⟩
            have v := v h.1
            have h := h.2
            obtain ⟨a37, e22, h⟩ := h
            refine ⟨a37, e22, ?_⟩
            have v := v a37 e22
            refine ⟨h.1, ?_⟩
            have v := v h.1
            have h := h.2
            refine jcX10_isWord ?_ _ _ _ h v
            intro r40 σ39 h v
            refine ⟨?_, ?_⟩
            · have h := h.1
              have v := v.1
              intro e24
              have h := h e24
              have v := v e24
              refine ⟨h.1, ?_⟩
              have v := v h.1
              have h := h.2
              obtain ⟨a44, e26, h⟩ := h
              refine ⟨a44, e26, ?_⟩
              have v := v a44 e26
              refine ⟨h.1, ?_⟩
              have v := v h.1
              have h := h.2
              refine jcX10_isWord ?_ _ _ _ h v
              intro r47 σ46 h v
              refine ⟨?_, ?_⟩
              · have h := h.1
                have v := v.1
                intro e28
                have h := h e28
                have v := v e28
                exact hQ _ _ h v
              · have h := h.2
                have v := v.2
                intro e29
                have h := h e29
                have v := v e29
                exact hQ _ _ h v
            · have h := h.2
              have v := v.2
              intro e30
              have h := h e30
              have v := v e30
              exact hQ _ _ h v
          · have h := h.2
            have v := v.2
            intro e31
            have h := h e31
            have v := v e31
            exact hQ _ _ h v
        · have h := h.2
          have v := v.2
          intro e32
          have h := h e32
          have v := v e32
          exact hQ _ _ h v
      · have h := h.2
        have v := v.2
        intro e33
        have h := h e33
        have v := v e33
        exact hQ _ _ h v
    · have h := h.2
      have v := v.2
      intro e34
      have h := h e34
      have v := v e34
      exact hQ _ _ h v
  · have h := h.2
    have v := v.2
    intro e35
    have h := h e35
    have v := v e35
    exact hQ _ _ h v
set_option maxRecDepth 100000 in
set_option maxHeartbeats 4000000 in
theorem jaX5_codeOfName {Q Q' : Int32 → kx_S → Prop} (hQ : ∀ y0 y1, Q y0 y1 → Q' y0 y1) : ∀ (l0 : Nat) (σ : kx_S), wX5_codeOfName l0 σ Q → vX5_codeOfName l0 σ Q' := by
  intro l0 σ h
  unfold wX5_codeOfName at h
  unfold vX5_codeOfName
  intro e1
  have h := h.2
  obtain ⟨a2', e2, h⟩ := h
  intro a2 e3
  have x9 : a2' = a2 := Option.some.inj (e2.symm.trans e3)
  rw [x9] at h
  intro e4
  have h := h.2
  refine jaX10_isWord ?_ _ _ _ h
  intro r5 σ4 h
  refine ⟨?_, ?_⟩
  · have h := h.1
    intro e5
    have h := h e5
    intro e6
    have h := h.2
    obtain ⟨a9', e7, h⟩ := h
    intro a9 e8
    have x9 : a9' = a9 := Option.some.inj (e7.symm.trans e8)
    rw [x9] at h
    intro e9
    have h := h.2
    refine jaX10_isWord ?_ _ _ _ h
    intro r12 σ11 h
    refine ⟨?_, ?_⟩
    · have h := h.1
      intro e10
      have h := h e10
      intro e11
      have h := h.2
      obtain ⟨a16', e12, h⟩ := h
      intro a16 e13
      have x9 : a16' = a16 := Option.some.inj (e12.symm.trans e13)
      rw [x9] at h
      intro e14
      have h := h.2
      refine jaX10_isWord ?_ _ _ _ h
      intro r19 σ18 h
      refine ⟨?_, ?_⟩
      · have h := h.1
        intro e15
        have h := h e15
        intro e16
        have h := h.2
        obtain ⟨a23', e17, h⟩ := h
        intro a23 e18
        have x9 : a23' = a23 := Option.some.inj (e17.symm.trans e18)
        rw [x9] at h
        intro e19
        have h := h.2
        refine jaX10_isWord ?_ _ _ _ h
        intro r26 σ25 h
        refine ⟨?_, ?_⟩
        · have h := h.1
          intro e20
          have h := h e20
          intro e21
          have h := h.2
          obtain ⟨a30', e22, h⟩ := h
          intro a30 e23
          have x9 : a30' = a30 := Option.some.inj (e22.symm.trans e23)
          rw [x9] at h
          intro e24
          have h := h.2
          refine jaX10_isWord ?_ _ _ _ h
          intro r33 σ32 h
          refine ⟨?_, ?_⟩
          · have h := h.1
            intro e25
            have h := h e25
            intro e26
            have h := h.2
            obtain ⟨a37', e27, h⟩ := h
            intro a37 e28
            have x9 : a37' = a37 := Option.some.inj (e27.symm.trans e28)
            rw [x9] at h
            intro e29
            have h := h.2
            refine jaX10_isWord ?_ _ _ _ h
            intro r40 σ39 h
            refine ⟨?_, ?_⟩
            · have h := h.1
              intro e30
              have h := h e30
              intro e31
              have h := h.2
              obtain ⟨a44', e32, h⟩ := h
              intro a44 e33
              have x9 : a44' = a44 := Option.some.inj (e32.symm.trans e33)
              rw [x9] at h
              intro e34
              have h := h.2
              refine jaX10_isWord ?_ _ _ _ h
              intro r47 σ46 h
              refine ⟨?_, ?_⟩
              · have h := h.1
                intro e35
                have h := h e35
                exact hQ _ _ h
              · have h := h.2
                intro e36
                have h := h e36
                exact hQ _ _ h
            · have h := h.2
              intro e37
              have h := h e37
              exact hQ _ _ h
          · have h := h.2
            intro e38
            have h := h e38
            exact hQ _ _ h
        · have h := h.2
          intro e39
          have h := h e39
          exact hQ _ _ h
      · have h := h.2
        intro e40
        have h := h e40
        exact hQ _ _ h
    · have h := h.2
      intro e41
      have h := h e41
      exact hQ _ _ h
  · have h := h.2
    intro e42
    have h := h e42
    exact hQ _ _ h
set_option maxRecDepth 100000 in
set_option maxHeartbeats 4000000 in
theorem jfX5_codeOfName {I : kx_S → Prop} (W : fw_ I []) {Q : Int32 → kx_S → Prop} (hQ : ∀ y0 y1, I y1 → Q y0 y1) : ∀ (l0 : Nat) (σ : kx_S), I σ → vX5_codeOfName l0 σ Q := by
  intro l0 σ i
  unfold vX5_codeOfName
  intro e1
  intro a2 e2
  intro e3
  refine jfX10_isWord (I := I) (fw_sub W (by decide)) ?_ _ _ _ i
  intro r5 σ4 iσ4
  refine ⟨?_, ?_⟩
  · intro e4
    intro e5
    intro a9 e6
    intro e7
    refine jfX10_isWord (I := I) (fw_sub W (by decide)) ?_ _ _ _ iσ4
    intro r12 σ11 iσ11
    refine ⟨?_, ?_⟩
    · intro e8
      intro e9
      intro a16 e10
      intro e11
      refine jfX10_isWord (I := I) (fw_sub W (by decide)) ?_ _ _ _ iσ11
      intro r19 σ18 iσ18
      refine ⟨?_, ?_⟩
      · intro e12
        intro e13
        intro a23 e14
        intro e15
        refine jfX10_isWord (I := I) (fw_sub W (by decide)) ?_ _ _ _ iσ18
        intro r26 σ25 iσ25
        refine ⟨?_, ?_⟩
        · intro e16
          intro e17
          intro a30 e18
          intro e19
          refine jfX10_isWord (I := I) (fw_sub W (by decide)) ?_ _ _ _ iσ25
          intro r33 σ32 iσ32
          refine ⟨?_, ?_⟩
          · intro e20
            intro e21
            intro a37 e22
            intro e23
            refine jfX10_isWord (I := I) (fw_sub W (by decide)) ?_ _ _ _ iσ32
            intro r40 σ39 iσ39
            refine ⟨?_, ?_⟩
            · intro e24
              intro e25
              intro a44 e26
              intro e27
              refine jfX10_isWord (I := I) (fw_sub W (by decide)) ?_ _ _ _ iσ39
              intro r47 σ46 iσ46
              refine ⟨?_, ?_⟩
              · intro e28
                exact hQ _ _ iσ46
              · intro e29
                exact hQ _ _ iσ46
            · intro e30
              exact hQ _ _ iσ39
          · intro e31
            exact hQ _ _ iσ32
        · intro e32
          exact hQ _ _ iσ25
      · intro e33
        exact hQ _ _ iσ18
    · intro e34
      exact hQ _ _ iσ11
  · intro e35
    exact hQ _ _ iσ4
def vX5_faultOfPart (l0 : Nat) (σ : kx_S) (Q : Int32 → kx_S → Prop) : Prop := xt σ l0 = 7 → ∀ a2, xr σ 112 l0 = some a2 → xt σ a2 = 12 → ∀ v5, v5 = xi σ 196 a2 → ((v5 = 1 → vX5_codeOfName l0 σ (fun r8 σ7 => ((¬ r8 = 0 → Q 0 σ7) ∧ (r8 = 0 → Q 3 σ7)))) ∧ ((v5 = 2 → Q 0 σ) ∧ ((v5 = 3 → Q 2 σ) ∧ ((v5 = 40 → Q 0 σ) ∧ (¬ v5 = 1 → ¬ v5 = 2 → ¬ v5 = 3 → ¬ v5 = 40 → Q 1 σ)))))
set_option maxRecDepth 100000 in
set_option maxHeartbeats 4000000 in
theorem jcX5_faultOfPart {Q Q' Q'' : Int32 → kx_S → Prop} (hQ : ∀ y0 y1, Q y0 y1 → Q' y0 y1 → Q'' y0 y1) : ∀ (l0 : Nat) (σ : kx_S), wX5_faultOfPart l0 σ Q → vX5_faultOfPart l0 σ Q' → wX5_faultOfPart l0 σ Q'' := by
  intro l0 σ h v
  unfold wX5_faultOfPart at h
  unfold vX5_faultOfPart at v
  unfold wX5_faultOfPart
  refine ⟨h.1, ?_⟩
  have v := v h.1
  have h := h.2
  obtain ⟨a2, e2, h⟩ := h
  refine ⟨a2, e2, ?_⟩
  have v := v a2 e2
  refine ⟨h.1, ?_⟩
  have v := v h.1
  have h := h.2
  intro v5 e4
  have h := h v5 e4
  have v := v v5 e4
  refine ⟨?_, ?_⟩
  · have h := h.1
    have v := v.1
    intro e5
    have h := h e5
    have v := v e5
    refine jcX5_codeOfName ?_ _ _ h v
    intro r8 σ7 h v
    refine ⟨?_, ?_⟩
    · have h := h.1
      have v := v.1
      intro e6
      have h := h e6
      have v := v e6
      exact hQ _ _ h v
    · have h := h.2
      have v := v.2
      intro e7
      have h := h e7
      have v := v e7
      exact hQ _ _ h v
  · have h := h.2
    have v := v.2
    refine ⟨?_, ?_⟩
    · have h := h.1
      have v := v.1
      intro e8
      have h := h e8
      have v := v e8
      exact hQ _ _ h v
    · have h := h.2
      have v := v.2
      refine ⟨?_, ?_⟩
      · have h := h.1
        have v := v.1
        intro e9
        have h := h e9
        have v := v e9
        exact hQ _ _ h v
      · have h := h.2
        have v := v.2
        refine ⟨?_, ?_⟩
        · have h := h.1
          have v := v.1
          intro e10
          have h := h e10
          have v := v e10
          exact hQ _ _ h v
        · have h := h.2
          have v := v.2
          intro e11 e12 e13 e14
          have h := h e11 e12 e13 e14
          have v := v e11 e12 e13 e14
          exact hQ _ _ h v
set_option maxRecDepth 100000 in
set_option maxHeartbeats 4000000 in
theorem jaX5_faultOfPart {Q Q' : Int32 → kx_S → Prop} (hQ : ∀ y0 y1, Q y0 y1 → Q' y0 y1) : ∀ (l0 : Nat) (σ : kx_S), wX5_faultOfPart l0 σ Q → vX5_faultOfPart l0 σ Q' := by
  intro l0 σ h
  unfold wX5_faultOfPart at h
  unfold vX5_faultOfPart
  intro e1
  have h := h.2
  obtain ⟨a2', e2, h⟩ := h
  intro a2 e3
  have x9 : a2' = a2 := Option.some.inj (e2.symm.trans e3)
  rw [x9] at h
  intro e4
  have h := h.2
  intro v5 e5
  have h := h v5 e5
  refine ⟨?_, ?_⟩
  · have h := h.1
    intro e6
    have h := h e6
    refine jaX5_codeOfName ?_ _ _ h
    intro r8 σ7 h
    refine ⟨?_, ?_⟩
    · have h := h.1
      intro e7
      have h := h e7
      exact hQ _ _ h
    · have h := h.2
      intro e8
      have h := h e8
      exact hQ _ _ h
  · have h := h.2
    refine ⟨?_, ?_⟩
    · have h := h.1
      intro e9
      have h := h e9
      exact hQ _ _ h
    · have h := h.2
      refine ⟨?_, ?_⟩
      · have h := h.1
        intro e10
        have h := h e10
        exact hQ _ _ h
      · have h := h.2
        refine ⟨?_, ?_⟩
        · have h := h.1
          intro e11
          have h := h e11
          exact hQ _ _ h
        · have h := h.2
          intro e12 e13 e14 e15
          have h := h e12 e13 e14 e15
          exact hQ _ _ h
set_option maxRecDepth 100000 in
set_option maxHeartbeats 4000000 in
theorem jfX5_faultOfPart {I : kx_S → Prop} (W : fw_ I []) {Q : Int32 → kx_S → Prop} (hQ : ∀ y0 y1, I y1 → Q y0 y1) : ∀ (l0 : Nat) (σ : kx_S), I σ → vX5_faultOfPart l0 σ Q := by
  intro l0 σ i
  unfold vX5_faultOfPart
  intro e1
  intro a2 e2
  intro e3
  intro v5 e4
  refine ⟨?_, ?_⟩
  · intro e5
    refine jfX5_codeOfName (I := I) (fw_sub W (by decide)) ?_ _ _ i
    intro r8 σ7 iσ7
    refine ⟨?_, ?_⟩
    · intro e6
      exact hQ _ _ iσ7
    · intro e7
      exact hQ _ _ iσ7
  · refine ⟨?_, ?_⟩
    · intro e8
      exact hQ _ _ i
    · refine ⟨?_, ?_⟩
      · intro e9
        exact hQ _ _ i
      · refine ⟨?_, ?_⟩
        · intro e10
          exact hQ _ _ i
        · intro e11 e12 e13 e14
          exact hQ _ _ i
def vX5_readPart_78 (re : Nat → Int32 → kx_S → (kx_S → Prop) → Prop) (Q : kx_S → Prop) (l0 : Nat) (s0 : Int32) (s1 : Nat) (σ : kx_S) : Prop := xt σ s1 = 7 → vX5_put s1 s0 σ (fun σ1 => xt σ1 l0 = 7 → ∀ a4, xr σ1 112 l0 = some a4 → xt σ1 a4 = 12 → vX10_advance a4 σ1 (fun σ6 => Q σ6))
set_option maxRecDepth 100000 in
set_option maxHeartbeats 4000000 in
theorem jcX5_readPart_78 {re re' : Nat → Int32 → kx_S → (kx_S → Prop) → Prop} (hre : ∀ {P P' P'' : kx_S → Prop}, (∀ y0, P y0 → P' y0 → P'' y0) → ∀ (x0 : Nat) (x1 : Int32) (x2 : kx_S), re x0 x1 x2 P → re' x0 x1 x2 P' → re x0 x1 x2 P'') {Q Q' Q'' : kx_S → Prop} (hQ : ∀ y0, Q y0 → Q' y0 → Q'' y0) : ∀ (l0 : Nat) (s0 : Int32) (s1 : Nat) (σ : kx_S), wX5_readPart_78 re Q l0 s0 s1 σ → vX5_readPart_78 re' Q' l0 s0 s1 σ → wX5_readPart_78 re Q'' l0 s0 s1 σ := by
  intro l0 s0 s1 σ h v
  unfold wX5_readPart_78 at h
  unfold vX5_readPart_78 at v
  unfold wX5_readPart_78
  refine ⟨h.1, ?_⟩
  have v := v h.1
  have h := h.2
  refine jcX5_put ?_ _ _ _ h v
  intro σ1 h v
  refine ⟨h.1, ?_⟩
  have v := v h.1
  have h := h.2
  obtain ⟨a4, e3, h⟩ := h
  refine ⟨a4, e3, ?_⟩
  have v := v a4 e3
  refine ⟨h.1, ?_⟩
  have v := v h.1
  have h := h.2
  refine jcX10_advance ?_ _ _ h v
  intro σ6 h v
  exact hQ _ h v
set_option maxRecDepth 100000 in
set_option maxHeartbeats 4000000 in
theorem jaX5_readPart_78 {re re' : Nat → Int32 → kx_S → (kx_S → Prop) → Prop} (hre : ∀ {P P' : kx_S → Prop}, (∀ y0, P y0 → P' y0) → ∀ (x0 : Nat) (x1 : Int32) (x2 : kx_S), re x0 x1 x2 P → re' x0 x1 x2 P') {Q Q' : kx_S → Prop} (hQ : ∀ y0, Q y0 → Q' y0) : ∀ (l0 : Nat) (s0 : Int32) (s1 : Nat) (σ : kx_S), wX5_readPart_78 re Q l0 s0 s1 σ → vX5_readPart_78 re' Q' l0 s0 s1 σ := by
  intro l0 s0 s1 σ h
  unfold wX5_readPart_78 at h
  unfold vX5_readPart_78
  intro e1
  have h := h.2
  refine jaX5_put ?_ _ _ _ h
  intro σ1 h
  intro e2
  have h := h.2
  obtain ⟨a4', e3, h⟩ := h
  intro a4 e4
  have x9 : a4' = a4 := Option.some.inj (e3.symm.trans e4)
  rw [x9] at h
  intro e5
  have h := h.2
  refine jaX10_advance ?_ _ _ h
  intro σ6 h
  exact hQ _ h
set_option maxRecDepth 100000 in
set_option maxHeartbeats 4000000 in
theorem jfX5_readPart_78 {I : kx_S → Prop} (W : fw_ I [114, 115, 116, 194, 195, 196, 1001]) {re : Nat → Int32 → kx_S → (kx_S → Prop) → Prop} (hre : ∀ {P : kx_S → Prop}, (∀ y0, I y0 → P y0) → ∀ (x0 : Nat) (x1 : Int32) (x2 : kx_S), I x2 → re x0 x1 x2 P) {Q : kx_S → Prop} (hQ : ∀ y0, I y0 → Q y0) : ∀ (l0 : Nat) (s0 : Int32) (s1 : Nat) (σ : kx_S), I σ → vX5_readPart_78 re Q l0 s0 s1 σ := by
  intro l0 s0 s1 σ i
  unfold vX5_readPart_78
  intro e1
  refine jfX5_put (I := I) (fw_sub W (by decide)) ?_ _ _ _ i
  intro σ1 iσ1
  intro e2
  intro a4 e3
  intro e4
  refine jfX10_advance (I := I) (fw_sub W (by decide)) ?_ _ _ iσ1
  intro σ6 iσ6
  exact hQ _ iσ6
def vX5_readPart (re : Nat → Int32 → kx_S → (kx_S → Prop) → Prop) (l0 : Nat) (l1 : Int32) (σ : kx_S) (Q : kx_S → Prop) : Prop := xt σ l0 = 7 → vX5_faultOfPart l0 σ (fun r9 σ8 => ((r9 = 0 → xt σ8 l0 = 7 → ∀ a13, xr σ8 112 l0 = some a13 → xt σ8 a13 = 12 → ((¬ (xi σ8 196 a13) = 40 → ∀ a17, xr σ8 112 l0 = some a17 → xt σ8 a17 = 12 → ((¬ (xi σ8 196 a17) = 2 → vX5_codeOfName l0 σ8 (fun r22 σ21 => vX5_readPart_78 re Q l0 r22 l0 σ21)) ∧ ((xi σ8 196 a17) = 2 → ∀ a23, xr σ8 112 l0 = some a23 → xt σ8 a23 = 12 → vX10_numberValue a23 σ8 (fun r26 σ25 => vX5_readPart_78 re Q l0 r26 l0 σ25)))) ∧ ((xi σ8 196 a13) = 40 → ∀ a28, xr σ8 112 l0 = some a28 → xt σ8 a28 = 12 → vX10_advance a28 σ8 (fun σ30 => xt σ30 l0 = 7 → re l0 (l1 + 1) σ30 (fun σ32 => xt σ32 l0 = 7 → vX5_pass l0 41 σ32 (fun σ34 => Q σ34)))))) ∧ (¬ (r9 = 0) → xt σ8 l0 = 7 → vX5_fail l0 r9 σ8 (fun σ36 => Q σ36))))
set_option maxRecDepth 100000 in
set_option maxHeartbeats 4000000 in
theorem jcX5_readPart {re re' : Nat → Int32 → kx_S → (kx_S → Prop) → Prop} (hre : ∀ {P P' P'' : kx_S → Prop}, (∀ y0, P y0 → P' y0 → P'' y0) → ∀ (x0 : Nat) (x1 : Int32) (x2 : kx_S), re x0 x1 x2 P → re' x0 x1 x2 P' → re x0 x1 x2 P'') {Q Q' Q'' : kx_S → Prop} (hQ : ∀ y0, Q y0 → Q' y0 → Q'' y0) : ∀ (l0 : Nat) (l1 : Int32) (σ : kx_S), wX5_readPart re l0 l1 σ Q → vX5_readPart re' l0 l1 σ Q' → wX5_readPart re l0 l1 σ Q'' := by
  intro l0 l1 σ h v
  unfold wX5_readPart at h
  unfold vX5_readPart at v
  unfold wX5_readPart
  refine ⟨h.1, ?_⟩
  have v := v h.1
  have h := h.2
  refine jcX5_faultOfPart ?_ _ _ h v
  intro r9 σ8 h v
  refine ⟨?_, ?_⟩
  · have h := h.1
    have v := v.1
    intro e2
    have h := h e2
    have v := v e2
    refine ⟨h.1, ?_⟩
    have v := v h.1
    have h := h.2
    obtain ⟨a13, e4, h⟩ := h
    refine ⟨a13, e4, ?_⟩
    have v := v a13 e4
    refine ⟨h.1, ?_⟩
    have v := v h.1
    have h := h.2
    refine ⟨?_, ?_⟩
    · have h := h.1
      have v := v.1
      intro e6
      have h := h e6
      have v := v e6
      obtain ⟨a17, e7, h⟩ := h
      refine ⟨a17, e7, ?_⟩
      have v := v a17 e7
      refine ⟨h.1, ?_⟩
      have v := v h.1
      have h := h.2
      refine ⟨?_, ?_⟩
      · have h := h.1
        have v := v.1
        intro e9
        have h := h e9
        have v := v e9
        refine jcX5_codeOfName ?_ _ _ h v
        intro r22 σ21 h v
        exact jcX5_readPart_78 hre hQ _ _ _ _ h v
      · have h := h.2
        have v := v.2
        intro e10
        have h := h e10
        have v := v e10
        obtain ⟨a23, e11, h⟩ := h
        refine ⟨a23, e11, ?_⟩
        have v := v a23 e11
        refine ⟨h.1, ?_⟩
        have v := v h.1
        have h := h.2
        refine jcX10_numberValue ?_ _ _ h v
        intro r26 σ25 h v
        exact jcX5_readPart_78 hre hQ _ _ _ _ h v
    · have h := h.2
      have v := v.2
      intro e13
      have h := h e13
      have v := v e13
      obtain ⟨a28, e14, h⟩ := h
      refine ⟨a28, e14, ?_⟩
      have v := v a28 e14
      refine ⟨h.1, ?_⟩
      have v := v h.1
      have h := h.2
      refine jcX10_advance ?_ _ _ h v
      intro σ30 h v
      refine ⟨h.1, ?_⟩
      have v := v h.1
      have h := h.2
      refine hre ?_ _ _ _ h v
      intro σ32 h v
      refine ⟨h.1, ?_⟩
      have v := v h.1
      have h := h.2
      refine jcX5_pass ?_ _ _ _ h v
      intro σ34 h v
      exact hQ _ h v
  · have h := h.2
    have v := v.2
    intro e18
    have h := h e18
    have v := v e18
    refine ⟨h.1, ?_⟩
    have v := v h.1
    have h := h.2
    refine jcX5_fail ?_ _ _ _ h v
    intro σ36 h v
    exact hQ _ h v
set_option maxRecDepth 100000 in
set_option maxHeartbeats 4000000 in
theorem jaX5_readPart {re re' : Nat → Int32 → kx_S → (kx_S → Prop) → Prop} (hre : ∀ {P P' : kx_S → Prop}, (∀ y0, P y0 → P' y0) → ∀ (x0 : Nat) (x1 : Int32) (x2 : kx_S), re x0 x1 x2 P → re' x0 x1 x2 P') {Q Q' : kx_S → Prop} (hQ : ∀ y0, Q y0 → Q' y0) : ∀ (l0 : Nat) (l1 : Int32) (σ : kx_S), wX5_readPart re l0 l1 σ Q → vX5_readPart re' l0 l1 σ Q' := by
  intro l0 l1 σ h
  unfold wX5_readPart at h
  unfold vX5_readPart
  intro e1
  have h := h.2
  refine jaX5_faultOfPart ?_ _ _ h
  intro r9 σ8 h
  refine ⟨?_, ?_⟩
  · have h := h.1
    intro e2
    have h := h e2
    intro e3
    have h := h.2
    obtain ⟨a13', e4, h⟩ := h
    intro a13 e5
    have x9 : a13' = a13 := Option.some.inj (e4.symm.trans e5)
    rw [x9] at h
    intro e6
    have h := h.2
    refine ⟨?_, ?_⟩
    · have h := h.1
      intro e7
      have h := h e7
      obtain ⟨a17', e8, h⟩ := h
      intro a17 e9
      have x9 : a17' = a17 := Option.some.inj (e8.symm.trans e9)
      rw [x9] at h
      intro e10
      have h := h.2
      refine ⟨?_, ?_⟩
      · have h := h.1
        intro e11
        have h := h e11
        refine jaX5_codeOfName ?_ _ _ h
        intro r22 σ21 h
        exact jaX5_readPart_78 hre hQ _ _ _ _ h
      · have h := h.2
        intro e12
        have h := h e12
        obtain ⟨a23', e13, h⟩ := h
        intro a23 e14
        have x9 : a23' = a23 := Option.some.inj (e13.symm.trans e14)
        rw [x9] at h
        intro e15
        have h := h.2
        refine jaX10_numberValue ?_ _ _ h
        intro r26 σ25 h
        exact jaX5_readPart_78 hre hQ _ _ _ _ h
    · have h := h.2
      intro e16
      have h := h e16
      obtain ⟨a28', e17, h⟩ := h
      intro a28 e18
      have x9 : a28' = a28 := Option.some.inj (e17.symm.trans e18)
      rw [x9] at h
      intro e19
      have h := h.2
      refine jaX10_advance ?_ _ _ h
      intro σ30 h
      intro e20
      have h := h.2
      refine hre ?_ _ _ _ h
      intro σ32 h
      intro e21
      have h := h.2
      refine jaX5_pass ?_ _ _ _ h
      intro σ34 h
      exact hQ _ h
  · have h := h.2
    intro e22
    have h := h e22
    intro e23
    have h := h.2
    refine jaX5_fail ?_ _ _ _ h
    intro σ36 h
    exact hQ _ h
set_option maxRecDepth 100000 in
set_option maxHeartbeats 4000000 in
theorem jfX5_readPart {I : kx_S → Prop} (W : fw_ I [114, 115, 116, 194, 195, 196, 1001]) {re : Nat → Int32 → kx_S → (kx_S → Prop) → Prop} (hre : ∀ {P : kx_S → Prop}, (∀ y0, I y0 → P y0) → ∀ (x0 : Nat) (x1 : Int32) (x2 : kx_S), I x2 → re x0 x1 x2 P) {Q : kx_S → Prop} (hQ : ∀ y0, I y0 → Q y0) : ∀ (l0 : Nat) (l1 : Int32) (σ : kx_S), I σ → vX5_readPart re l0 l1 σ Q := by
  intro l0 l1 σ i
  unfold vX5_readPart
  intro e1
  refine jfX5_faultOfPart (I := I) (fw_sub W (by decide)) ?_ _ _ i
  intro r9 σ8 iσ8
  refine ⟨?_, ?_⟩
  · intro e2
    intro e3
    intro a13 e4
    intro e5
    refine ⟨?_, ?_⟩
    · intro e6
      intro a17 e7
      intro e8
      refine ⟨?_, ?_⟩
      · intro e9
        refine jfX5_codeOfName (I := I) (fw_sub W (by decide)) ?_ _ _ iσ8
        intro r22 σ21 iσ21
        exact jfX5_readPart_78 (I := I) (fw_sub W (by decide)) hre hQ _ _ _ _ iσ21
      · intro e10
        intro a23 e11
        intro e12
        refine jfX10_numberValue (I := I) (fw_sub W (by decide)) ?_ _ _ iσ8
        intro r26 σ25 iσ25
        exact jfX5_readPart_78 (I := I) (fw_sub W (by decide)) hre hQ _ _ _ _ iσ25
    · intro e13
      intro a28 e14
      intro e15
      refine jfX10_advance (I := I) (fw_sub W (by decide)) ?_ _ _ iσ8
      intro σ30 iσ30
      intro e16
      refine hre ?_ _ _ _ iσ30
      intro σ32 iσ32
      intro e17
      refine jfX5_pass (I := I) (fw_sub W (by decide)) ?_ _ _ _ iσ32
      intro σ34 iσ34
      exact hQ _ iσ34
  · intro e18
    intro e19
    refine jfX5_fail (I := I) (fw_sub W (by decide)) ?_ _ _ _ iσ8
    intro σ36 iσ36
    exact hQ _ iσ36
def vX5_readTerm_68 (re : Nat → Int32 → kx_S → (kx_S → Prop) → Prop) (k7 : Nat → Int32 → Int32 → kx_S → Prop) (Q : kx_S → Prop) (l0 : Nat) (l1 : Int32) (l2 : Int32) (s0 : Int32) (s1 : Nat) (σ : kx_S) : Prop := xt σ s1 = 7 → vX5_put s1 s0 σ (fun σ1 => ∀ v3 : Int32, v3 = l2 + 1 → k7 l0 l1 v3 σ1)
set_option maxRecDepth 100000 in
set_option maxHeartbeats 4000000 in
theorem jcX5_readTerm_68 {re re' : Nat → Int32 → kx_S → (kx_S → Prop) → Prop} (hre : ∀ {P P' P'' : kx_S → Prop}, (∀ y0, P y0 → P' y0 → P'' y0) → ∀ (x0 : Nat) (x1 : Int32) (x2 : kx_S), re x0 x1 x2 P → re' x0 x1 x2 P' → re x0 x1 x2 P'') {k7 k7' k7'' : Nat → Int32 → Int32 → kx_S → Prop} (hk7 : ∀ y0 y1 y2 y3, k7 y0 y1 y2 y3 → k7' y0 y1 y2 y3 → k7'' y0 y1 y2 y3) {Q Q' Q'' : kx_S → Prop} (hQ : ∀ y0, Q y0 → Q' y0 → Q'' y0) : ∀ (l0 : Nat) (l1 : Int32) (l2 : Int32) (s0 : Int32) (s1 : Nat) (σ : kx_S), wX5_readTerm_68 re k7 Q l0 l1 l2 s0 s1 σ → vX5_readTerm_68 re' k7' Q' l0 l1 l2 s0 s1 σ → wX5_readTerm_68 re k7'' Q'' l0 l1 l2 s0 s1 σ := by
  intro l0 l1 l2 s0 s1 σ h v
  unfold wX5_readTerm_68 at h
  unfold vX5_readTerm_68 at v
  unfold wX5_readTerm_68
  refine ⟨h.1, ?_⟩
  have v := v h.1
  have h := h.2
  refine jcX5_put ?_ _ _ _ h v
  intro σ1 h v
  intro v3 e2
  have h := h v3 e2
  have v := v v3 e2
  exact hk7 _ _ _ _ h v
set_option maxRecDepth 100000 in
set_option maxHeartbeats 4000000 in
theorem jaX5_readTerm_68 {re re' : Nat → Int32 → kx_S → (kx_S → Prop) → Prop} (hre : ∀ {P P' : kx_S → Prop}, (∀ y0, P y0 → P' y0) → ∀ (x0 : Nat) (x1 : Int32) (x2 : kx_S), re x0 x1 x2 P → re' x0 x1 x2 P') {k7 k7' : Nat → Int32 → Int32 → kx_S → Prop} (hk7 : ∀ y0 y1 y2 y3, k7 y0 y1 y2 y3 → k7' y0 y1 y2 y3) {Q Q' : kx_S → Prop} (hQ : ∀ y0, Q y0 → Q' y0) : ∀ (l0 : Nat) (l1 : Int32) (l2 : Int32) (s0 : Int32) (s1 : Nat) (σ : kx_S), wX5_readTerm_68 re k7 Q l0 l1 l2 s0 s1 σ → vX5_readTerm_68 re' k7' Q' l0 l1 l2 s0 s1 σ := by
  intro l0 l1 l2 s0 s1 σ h
  unfold wX5_readTerm_68 at h
  unfold vX5_readTerm_68
  intro e1
  have h := h.2
  refine jaX5_put ?_ _ _ _ h
  intro σ1 h
  intro v3 e2
  have h := h v3 e2
  exact hk7 _ _ _ _ h
set_option maxRecDepth 100000 in
set_option maxHeartbeats 4000000 in
theorem jfX5_readTerm_68 {I : kx_S → Prop} (W : fw_ I [114, 115, 116, 194, 195, 196, 1001]) {re : Nat → Int32 → kx_S → (kx_S → Prop) → Prop} (hre : ∀ {P : kx_S → Prop}, (∀ y0, I y0 → P y0) → ∀ (x0 : Nat) (x1 : Int32) (x2 : kx_S), I x2 → re x0 x1 x2 P) {k7 : Nat → Int32 → Int32 → kx_S → Prop} (hk7 : ∀ y0 y1 y2 y3, I y3 → k7 y0 y1 y2 y3) {Q : kx_S → Prop} (hQ : ∀ y0, I y0 → Q y0) : ∀ (l0 : Nat) (l1 : Int32) (l2 : Int32) (s0 : Int32) (s1 : Nat) (σ : kx_S), I σ → vX5_readTerm_68 re k7 Q l0 l1 l2 s0 s1 σ := by
  intro l0 l1 l2 s0 s1 σ i
  unfold vX5_readTerm_68
  intro e1
  refine jfX5_put (I := I) (fw_sub W (by decide)) ?_ _ _ _ i
  intro σ1 iσ1
  intro v3 e2
  exact hk7 _ _ _ _ iσ1
end
section
def vX5_readTerm_42 (re : Nat → Int32 → kx_S → (kx_S → Prop) → Prop) (k7 : Nat → Int32 → Int32 → kx_S → Prop) (Q : kx_S → Prop) (l0 : Nat) (l1 : Int32) (l2 : Int32) (l3 : Int32) (σ : kx_S) : Prop := xt σ l0 = 7 → ∀ a5, xr σ 112 l0 = some a5 → xt σ a5 = 12 → vX10_advance a5 σ (fun σ7 => xt σ7 l0 = 7 → vX5_readPart re l0 l1 σ7 (fun σ9 => ((¬ l3 = 42 → vX5_readTerm_68 re k7 Q l0 l1 l2 (-11) l0 σ9) ∧ (l3 = 42 → vX5_readTerm_68 re k7 Q l0 l1 l2 (-10) l0 σ9))))
set_option maxRecDepth 100000 in
set_option maxHeartbeats 4000000 in
theorem jcX5_readTerm_42 {re re' : Nat → Int32 → kx_S → (kx_S → Prop) → Prop} (hre : ∀ {P P' P'' : kx_S → Prop}, (∀ y0, P y0 → P' y0 → P'' y0) → ∀ (x0 : Nat) (x1 : Int32) (x2 : kx_S), re x0 x1 x2 P → re' x0 x1 x2 P' → re x0 x1 x2 P'') {k7 k7' k7'' : Nat → Int32 → Int32 → kx_S → Prop} (hk7 : ∀ y0 y1 y2 y3, k7 y0 y1 y2 y3 → k7' y0 y1 y2 y3 → k7'' y0 y1 y2 y3) {Q Q' Q'' : kx_S → Prop} (hQ : ∀ y0, Q y0 → Q' y0 → Q'' y0) : ∀ (l0 : Nat) (l1 : Int32) (l2 : Int32) (l3 : Int32) (σ : kx_S), wX5_readTerm_42 re k7 Q l0 l1 l2 l3 σ → vX5_readTerm_42 re' k7' Q' l0 l1 l2 l3 σ → wX5_readTerm_42 re k7'' Q'' l0 l1 l2 l3 σ := by
  intro l0 l1 l2 l3 σ h v
  unfold wX5_readTerm_42 at h
  unfold vX5_readTerm_42 at v
  unfold wX5_readTerm_42
  refine ⟨h.1, ?_⟩
  have v := v h.1
  have h := h.2
  obtain ⟨a5, e2, h⟩ := h
  refine ⟨a5, e2, ?_⟩
  have v := v a5 e2
  refine ⟨h.1, ?_⟩
  have v := v h.1
  have h := h.2
  refine jcX10_advance ?_ _ _ h v
  intro σ7 h v
  refine ⟨h.1, ?_⟩
  have v := v h.1
  have h := h.2
  refine jcX5_readPart hre ?_ _ _ _ h v
  intro σ9 h v
  refine ⟨?_, ?_⟩
  · have h := h.1
    have v := v.1
    intro e5
    have h := h e5
    have v := v e5
    exact jcX5_readTerm_68 hre hk7 hQ _ _ _ _ _ _ h v
  · have h := h.2
    have v := v.2
    intro e6
    have h := h e6
    have v := v e6
    exact jcX5_readTerm_68 hre hk7 hQ _ _ _ _ _ _ h v
set_option maxRecDepth 100000 in
set_option maxHeartbeats 4000000 in
theorem jaX5_readTerm_42 {re re' : Nat → Int32 → kx_S → (kx_S → Prop) → Prop} (hre : ∀ {P P' : kx_S → Prop}, (∀ y0, P y0 → P' y0) → ∀ (x0 : Nat) (x1 : Int32) (x2 : kx_S), re x0 x1 x2 P → re' x0 x1 x2 P') {k7 k7' : Nat → Int32 → Int32 → kx_S → Prop} (hk7 : ∀ y0 y1 y2 y3, k7 y0 y1 y2 y3 → k7' y0 y1 y2 y3) {Q Q' : kx_S → Prop} (hQ : ∀ y0, Q y0 → Q' y0) : ∀ (l0 : Nat) (l1 : Int32) (l2 : Int32) (l3 : Int32) (σ : kx_S), wX5_readTerm_42 re k7 Q l0 l1 l2 l3 σ → vX5_readTerm_42 re' k7' Q' l0 l1 l2 l3 σ := by
  intro l0 l1 l2 l3 σ h
  unfold wX5_readTerm_42 at h
  unfold vX5_readTerm_42
  intro e1
  have h := h.2
  obtain ⟨a5', e2, h⟩ := h
  intro a5 e3
  have x9 : a5' = a5 := Option.some.inj (e2.symm.trans e3)
  rw [x9] at h
  intro e4
  have h := h.2
  refine jaX10_advance ?_ _ _ h
  intro σ7 h
  intro e5
  have h := h.2
  refine jaX5_readPart hre ?_ _ _ _ h
  intro σ9 h
  refine ⟨?_, ?_⟩
  · have h := h.1
    intro e6
    have h := h e6
    exact jaX5_readTerm_68 hre hk7 hQ _ _ _ _ _ _ h
  · have h := h.2
    intro e7
    have h := h e7
    exact jaX5_readTerm_68 hre hk7 hQ _ _ _ _ _ _ h
set_option maxRecDepth 100000 in
set_option maxHeartbeats 4000000 in
theorem jfX5_readTerm_42 {I : kx_S → Prop} (W : fw_ I [114, 115, 116, 194, 195, 196, 1001]) {re : Nat → Int32 → kx_S → (kx_S → Prop) → Prop} (hre : ∀ {P : kx_S → Prop}, (∀ y0, I y0 → P y0) → ∀ (x0 : Nat) (x1 : Int32) (x2 : kx_S), I x2 → re x0 x1 x2 P) {k7 : Nat → Int32 → Int32 → kx_S → Prop} (hk7 : ∀ y0 y1 y2 y3, I y3 → k7 y0 y1 y2 y3) {Q : kx_S → Prop} (hQ : ∀ y0, I y0 → Q y0) : ∀ (l0 : Nat) (l1 : Int32) (l2 : Int32) (l3 : Int32) (σ : kx_S), I σ → vX5_readTerm_42 re k7 Q l0 l1 l2 l3 σ := by
  intro l0 l1 l2 l3 σ i
  unfold vX5_readTerm_42
  intro e1
  intro a5 e2
  intro e3
  refine jfX10_advance (I := I) (fw_sub W (by decide)) ?_ _ _ i
  intro σ7 iσ7
  intro e4
  refine jfX5_readPart (I := I) (fw_sub W (by decide)) hre ?_ _ _ _ iσ7
  intro σ9 iσ9
  refine ⟨?_, ?_⟩
  · intro e5
    exact jfX5_readTerm_68 (I := I) (fw_sub W (by decide)) hre hk7 hQ _ _ _ _ _ _ iσ9
  · intro e6
    exact jfX5_readTerm_68 (I := I) (fw_sub W (by decide)) hre hk7 hQ _ _ _ _ _ _ iσ9
def vX5_readTerm_7 (re : Nat → Int32 → kx_S → (kx_S → Prop) → Prop) (Q : kx_S → Prop) : Nat → Nat → Int32 → Int32 → kx_S → Prop
  | 0, _, _, _, _ => True
  | n + 1, l0, l1, l2, σ => ((500 ≤ l2 → Q σ) ∧ (¬ (500 ≤ l2) → xt σ l0 = 7 → ((¬ (xi σ 115 l0) = 0 → Q σ) ∧ ((xi σ 115 l0) = 0 → ∀ a15, xr σ 112 l0 = some a15 → xt σ a15 = 12 → ∀ v18, v18 = xi σ 196 a15 → ((v18 = 42 → vX5_readTerm_42 re (vX5_readTerm_7 re Q n) Q l0 l1 l2 v18 σ) ∧ (¬ (v18 = 42) → ((v18 = 47 → vX5_readTerm_42 re (vX5_readTerm_7 re Q n) Q l0 l1 l2 v18 σ) ∧ (¬ (v18 = 47) → Q σ))))))))
set_option maxRecDepth 100000 in
set_option maxHeartbeats 4000000 in
theorem jcX5_readTerm_7 {re re' : Nat → Int32 → kx_S → (kx_S → Prop) → Prop} (hre : ∀ {P P' P'' : kx_S → Prop}, (∀ y0, P y0 → P' y0 → P'' y0) → ∀ (x0 : Nat) (x1 : Int32) (x2 : kx_S), re x0 x1 x2 P → re' x0 x1 x2 P' → re x0 x1 x2 P'') {Q Q' Q'' : kx_S → Prop} (hQ : ∀ y0, Q y0 → Q' y0 → Q'' y0) : ∀ (n : Nat) (l0 : Nat) (l1 : Int32) (l2 : Int32) (σ : kx_S), wX5_readTerm_7 re Q n l0 l1 l2 σ → vX5_readTerm_7 re' Q' n l0 l1 l2 σ → wX5_readTerm_7 re Q'' n l0 l1 l2 σ := by
  intro n
  induction n with
  | zero => intro l0 l1 l2 σ h; exact h.elim
  | succ n ih =>
    intro l0 l1 l2 σ h v
    unfold wX5_readTerm_7 at h
    unfold vX5_readTerm_7 at v
    unfold wX5_readTerm_7
    refine ⟨?_, ?_⟩
    · have h := h.1
      have v := v.1
      intro e1
      have h := h e1
      have v := v e1
      exact hQ _ h v
    · have h := h.2
      have v := v.2
      intro e2
      have h := h e2
      have v := v e2
      refine ⟨h.1, ?_⟩
      have v := v h.1
      have h := h.2
      refine ⟨?_, ?_⟩
      · have h := h.1
        have v := v.1
        intro e4
        have h := h e4
        have v := v e4
        exact hQ _ h v
      · have h := h.2
        have v := v.2
        intro e5
        have h := h e5
        have v := v e5
        obtain ⟨a15, e6, h⟩ := h
        refine ⟨a15, e6, ?_⟩
        have v := v a15 e6
        refine ⟨h.1, ?_⟩
        have v := v h.1
        have h := h.2
        intro v18 e8
        have h := h v18 e8
        have v := v v18 e8
        refine ⟨?_, ?_⟩
        · have h := h.1
          have v := v.1
          intro e9
          have h := h e9
          have v := v e9
          exact jcX5_readTerm_42 hre (k7 := wX5_readTerm_7 re Q n) (k7' := vX5_readTerm_7 re' Q' n) (k7'' := wX5_readTerm_7 re Q'' n) (fun _ _ _ _ h v => ih _ _ _ _ h v) hQ _ _ _ _ _ h v
        · have h := h.2
          have v := v.2
          intro e10
          have h := h e10
          have v := v e10
          refine ⟨?_, ?_⟩
          · have h := h.1
            have v := v.1
            intro e11
            have h := h e11
            have v := v e11
            exact jcX5_readTerm_42 hre (k7 := wX5_readTerm_7 re Q n) (k7' := vX5_readTerm_7 re' Q' n) (k7'' := wX5_readTerm_7 re Q'' n) (fun _ _ _ _ h v => ih _ _ _ _ h v) hQ _ _ _ _ _ h v
          · have h := h.2
            have v := v.2
            intro e12
            have h := h e12
            have v := v e12
            exact hQ _ h v
set_option maxRecDepth 100000 in
set_option maxHeartbeats 4000000 in
theorem jaX5_readTerm_7 {re re' : Nat → Int32 → kx_S → (kx_S → Prop) → Prop} (hre : ∀ {P P' : kx_S → Prop}, (∀ y0, P y0 → P' y0) → ∀ (x0 : Nat) (x1 : Int32) (x2 : kx_S), re x0 x1 x2 P → re' x0 x1 x2 P') {Q Q' : kx_S → Prop} (hQ : ∀ y0, Q y0 → Q' y0) : ∀ (n m : Nat) (l0 : Nat) (l1 : Int32) (l2 : Int32) (σ : kx_S), wX5_readTerm_7 re Q n l0 l1 l2 σ → vX5_readTerm_7 re' Q' m l0 l1 l2 σ := by
  intro n
  induction n with
  | zero => intro m l0 l1 l2 σ h; exact h.elim
  | succ n ih =>
    intro m l0 l1 l2 σ h
    cases m with
    | zero => exact trivial
    | succ m =>
      unfold wX5_readTerm_7 at h
      unfold vX5_readTerm_7
      refine ⟨?_, ?_⟩
      · have h := h.1
        intro e1
        have h := h e1
        exact hQ _ h
      · have h := h.2
        intro e2
        have h := h e2
        intro e3
        have h := h.2
        refine ⟨?_, ?_⟩
        · have h := h.1
          intro e4
          have h := h e4
          exact hQ _ h
        · have h := h.2
          intro e5
          have h := h e5
          obtain ⟨a15', e6, h⟩ := h
          intro a15 e7
          have x9 : a15' = a15 := Option.some.inj (e6.symm.trans e7)
          rw [x9] at h
          intro e8
          have h := h.2
          intro v18 e9
          have h := h v18 e9
          refine ⟨?_, ?_⟩
          · have h := h.1
            intro e10
            have h := h e10
            exact jaX5_readTerm_42 hre (k7 := wX5_readTerm_7 re Q n) (k7' := vX5_readTerm_7 re' Q' m) (fun _ _ _ _ h => ih m _ _ _ _ h) hQ _ _ _ _ _ h
          · have h := h.2
            intro e11
            have h := h e11
            refine ⟨?_, ?_⟩
            · have h := h.1
              intro e12
              have h := h e12
              exact jaX5_readTerm_42 hre (k7 := wX5_readTerm_7 re Q n) (k7' := vX5_readTerm_7 re' Q' m) (fun _ _ _ _ h => ih m _ _ _ _ h) hQ _ _ _ _ _ h
            · have h := h.2
              intro e13
              have h := h e13
              exact hQ _ h
set_option maxRecDepth 100000 in
set_option maxHeartbeats 4000000 in
theorem jfX5_readTerm_7 {I : kx_S → Prop} (W : fw_ I [114, 115, 116, 194, 195, 196, 1001]) {re : Nat → Int32 → kx_S → (kx_S → Prop) → Prop} (hre : ∀ {P : kx_S → Prop}, (∀ y0, I y0 → P y0) → ∀ (x0 : Nat) (x1 : Int32) (x2 : kx_S), I x2 → re x0 x1 x2 P) {Q : kx_S → Prop} (hQ : ∀ y0, I y0 → Q y0) : ∀ (n : Nat) (l0 : Nat) (l1 : Int32) (l2 : Int32) (σ : kx_S), I σ → vX5_readTerm_7 re Q n l0 l1 l2 σ := by
  intro n
  induction n with
  | zero => intro l0 l1 l2 σ i; exact trivial
  | succ n ih =>
    intro l0 l1 l2 σ i
    unfold vX5_readTerm_7
    refine ⟨?_, ?_⟩
    · intro e1
      exact hQ _ i
    · intro e2
      intro e3
      refine ⟨?_, ?_⟩
      · intro e4
        exact hQ _ i
      · intro e5
        intro a15 e6
        intro e7
        intro v18 e8
        refine ⟨?_, ?_⟩
        · intro e9
          exact jfX5_readTerm_42 (I := I) (fw_sub W (by decide)) hre (k7 := vX5_readTerm_7 re Q n) (fun _ _ _ _ i => ih _ _ _ _ i) hQ _ _ _ _ _ i
        · intro e10
          refine ⟨?_, ?_⟩
          · intro e11
            exact jfX5_readTerm_42 (I := I) (fw_sub W (by decide)) hre (k7 := vX5_readTerm_7 re Q n) (fun _ _ _ _ i => ih _ _ _ _ i) hQ _ _ _ _ _ i
          · intro e12
            exact hQ _ i
def vX5_readTerm (re : Nat → Int32 → kx_S → (kx_S → Prop) → Prop) (l0 : Nat) (l1 : Int32) (σ : kx_S) (Q : kx_S → Prop) : Prop := xt σ l0 = 7 → vX5_readPart re l0 l1 σ (fun σ21 => ∀ j, vX5_readTerm_7 re Q j l0 l1 0 σ21)
set_option maxRecDepth 100000 in
set_option maxHeartbeats 4000000 in
theorem jcX5_readTerm {re re' : Nat → Int32 → kx_S → (kx_S → Prop) → Prop} (hre : ∀ {P P' P'' : kx_S → Prop}, (∀ y0, P y0 → P' y0 → P'' y0) → ∀ (x0 : Nat) (x1 : Int32) (x2 : kx_S), re x0 x1 x2 P → re' x0 x1 x2 P' → re x0 x1 x2 P'') {Q Q' Q'' : kx_S → Prop} (hQ : ∀ y0, Q y0 → Q' y0 → Q'' y0) : ∀ (l0 : Nat) (l1 : Int32) (σ : kx_S), wX5_readTerm re l0 l1 σ Q → vX5_readTerm re' l0 l1 σ Q' → wX5_readTerm re l0 l1 σ Q'' := by
  intro l0 l1 σ h v
  unfold wX5_readTerm at h
  unfold vX5_readTerm at v
  unfold wX5_readTerm
  refine ⟨h.1, ?_⟩
  have v := v h.1
  have h := h.2
  refine jcX5_readPart hre ?_ _ _ _ h v
  intro σ21 h v
  obtain ⟨j, h⟩ := h
  refine ⟨j, ?_⟩
  have v := v j
  exact jcX5_readTerm_7 hre hQ _ _ _ _ _ h v
set_option maxRecDepth 100000 in
set_option maxHeartbeats 4000000 in
theorem jaX5_readTerm {re re' : Nat → Int32 → kx_S → (kx_S → Prop) → Prop} (hre : ∀ {P P' : kx_S → Prop}, (∀ y0, P y0 → P' y0) → ∀ (x0 : Nat) (x1 : Int32) (x2 : kx_S), re x0 x1 x2 P → re' x0 x1 x2 P') {Q Q' : kx_S → Prop} (hQ : ∀ y0, Q y0 → Q' y0) : ∀ (l0 : Nat) (l1 : Int32) (σ : kx_S), wX5_readTerm re l0 l1 σ Q → vX5_readTerm re' l0 l1 σ Q' := by
  intro l0 l1 σ h
  unfold wX5_readTerm at h
  unfold vX5_readTerm
  intro e1
  have h := h.2
  refine jaX5_readPart hre ?_ _ _ _ h
  intro σ21 h
  obtain ⟨j, h⟩ := h
  intro j9
  exact jaX5_readTerm_7 hre hQ _ j9 _ _ _ _ h
set_option maxRecDepth 100000 in
set_option maxHeartbeats 4000000 in
theorem jfX5_readTerm {I : kx_S → Prop} (W : fw_ I [114, 115, 116, 194, 195, 196, 1001]) {re : Nat → Int32 → kx_S → (kx_S → Prop) → Prop} (hre : ∀ {P : kx_S → Prop}, (∀ y0, I y0 → P y0) → ∀ (x0 : Nat) (x1 : Int32) (x2 : kx_S), I x2 → re x0 x1 x2 P) {Q : kx_S → Prop} (hQ : ∀ y0, I y0 → Q y0) : ∀ (l0 : Nat) (l1 : Int32) (σ : kx_S), I σ → vX5_readTerm re l0 l1 σ Q := by
  intro l0 l1 σ i
  unfold vX5_readTerm
  intro e1
  refine jfX5_readPart (I := I) (fw_sub W (by decide)) hre ?_ _ _ _ i
  intro σ21 iσ21
  intro j
  exact jfX5_readTerm_7 (I := I) (fw_sub W (by decide)) hre hQ _ _ _ _ _ iσ21
def vX5_readSum_68 (re : Nat → Int32 → kx_S → (kx_S → Prop) → Prop) (k7 : Nat → Int32 → Int32 → kx_S → Prop) (Q : kx_S → Prop) (l0 : Nat) (l1 : Int32) (l2 : Int32) (s0 : Int32) (s1 : Nat) (σ : kx_S) : Prop := xt σ s1 = 7 → vX5_put s1 s0 σ (fun σ1 => ∀ v3 : Int32, v3 = l2 + 1 → k7 l0 l1 v3 σ1)
set_option maxRecDepth 100000 in
set_option maxHeartbeats 4000000 in
theorem jcX5_readSum_68 {re re' : Nat → Int32 → kx_S → (kx_S → Prop) → Prop} (hre : ∀ {P P' P'' : kx_S → Prop}, (∀ y0, P y0 → P' y0 → P'' y0) → ∀ (x0 : Nat) (x1 : Int32) (x2 : kx_S), re x0 x1 x2 P → re' x0 x1 x2 P' → re x0 x1 x2 P'') {k7 k7' k7'' : Nat → Int32 → Int32 → kx_S → Prop} (hk7 : ∀ y0 y1 y2 y3, k7 y0 y1 y2 y3 → k7' y0 y1 y2 y3 → k7'' y0 y1 y2 y3) {Q Q' Q'' : kx_S → Prop} (hQ : ∀ y0, Q y0 → Q' y0 → Q'' y0) : ∀ (l0 : Nat) (l1 : Int32) (l2 : Int32) (s0 : Int32) (s1 : Nat) (σ : kx_S), wX5_readSum_68 re k7 Q l0 l1 l2 s0 s1 σ → vX5_readSum_68 re' k7' Q' l0 l1 l2 s0 s1 σ → wX5_readSum_68 re k7'' Q'' l0 l1 l2 s0 s1 σ := by
  intro l0 l1 l2 s0 s1 σ h v
  unfold wX5_readSum_68 at h
  unfold vX5_readSum_68 at v
  unfold wX5_readSum_68
  refine ⟨h.1, ?_⟩
  have v := v h.1
  have h := h.2
  refine jcX5_put ?_ _ _ _ h v
  intro σ1 h v
  intro v3 e2
  have h := h v3 e2
  have v := v v3 e2
  exact hk7 _ _ _ _ h v
set_option maxRecDepth 100000 in
set_option maxHeartbeats 4000000 in
theorem jaX5_readSum_68 {re re' : Nat → Int32 → kx_S → (kx_S → Prop) → Prop} (hre : ∀ {P P' : kx_S → Prop}, (∀ y0, P y0 → P' y0) → ∀ (x0 : Nat) (x1 : Int32) (x2 : kx_S), re x0 x1 x2 P → re' x0 x1 x2 P') {k7 k7' : Nat → Int32 → Int32 → kx_S → Prop} (hk7 : ∀ y0 y1 y2 y3, k7 y0 y1 y2 y3 → k7' y0 y1 y2 y3) {Q Q' : kx_S → Prop} (hQ : ∀ y0, Q y0 → Q' y0) : ∀ (l0 : Nat) (l1 : Int32) (l2 : Int32) (s0 : Int32) (s1 : Nat) (σ : kx_S), wX5_readSum_68 re k7 Q l0 l1 l2 s0 s1 σ → vX5_readSum_68 re' k7' Q' l0 l1 l2 s0 s1 σ := by
  intro l0 l1 l2 s0 s1 σ h
  unfold wX5_readSum_68 at h
  unfold vX5_readSum_68
  intro e1
  have h := h.2
  refine jaX5_put ?_ _ _ _ h
  intro σ1 h
  intro v3 e2
  have h := h v3 e2
  exact hk7 _ _ _ _ h
set_option maxRecDepth 100000 in
set_option maxHeartbeats 4000000 in
theorem jfX5_readSum_68 {I : kx_S → Prop} (W : fw_ I [114, 115, 116, 194, 195, 196, 1001]) {re : Nat → Int32 → kx_S → (kx_S → Prop) → Prop} (hre : ∀ {P : kx_S → Prop}, (∀ y0, I y0 → P y0) → ∀ (x0 : Nat) (x1 : Int32) (x2 : kx_S), I x2 → re x0 x1 x2 P) {k7 : Nat → Int32 → Int32 → kx_S → Prop} (hk7 : ∀ y0 y1 y2 y3, I y3 → k7 y0 y1 y2 y3) {Q : kx_S → Prop} (hQ : ∀ y0, I y0 → Q y0) : ∀ (l0 : Nat) (l1 : Int32) (l2 : Int32) (s0 : Int32) (s1 : Nat) (σ : kx_S), I σ → vX5_readSum_68 re k7 Q l0 l1 l2 s0 s1 σ := by
  intro l0 l1 l2 s0 s1 σ i
  unfold vX5_readSum_68
  intro e1
  refine jfX5_put (I := I) (fw_sub W (by decide)) ?_ _ _ _ i
  intro σ1 iσ1
  intro v3 e2
  exact hk7 _ _ _ _ iσ1
def vX5_readSum_42 (re : Nat → Int32 → kx_S → (kx_S → Prop) → Prop) (k7 : Nat → Int32 → Int32 → kx_S → Prop) (Q : kx_S → Prop) (l0 : Nat) (l1 : Int32) (l2 : Int32) (l3 : Int32) (σ : kx_S) : Prop := xt σ l0 = 7 → ∀ a5, xr σ 112 l0 = some a5 → xt σ a5 = 12 → vX10_advance a5 σ (fun σ7 => xt σ7 l0 = 7 → vX5_readTerm re l0 l1 σ7 (fun σ9 => ((¬ l3 = 43 → vX5_readSum_68 re k7 Q l0 l1 l2 (-9) l0 σ9) ∧ (l3 = 43 → vX5_readSum_68 re k7 Q l0 l1 l2 (-8) l0 σ9))))
set_option maxRecDepth 100000 in
set_option maxHeartbeats 4000000 in
theorem jcX5_readSum_42 {re re' : Nat → Int32 → kx_S → (kx_S → Prop) → Prop} (hre : ∀ {P P' P'' : kx_S → Prop}, (∀ y0, P y0 → P' y0 → P'' y0) → ∀ (x0 : Nat) (x1 : Int32) (x2 : kx_S), re x0 x1 x2 P → re' x0 x1 x2 P' → re x0 x1 x2 P'') {k7 k7' k7'' : Nat → Int32 → Int32 → kx_S → Prop} (hk7 : ∀ y0 y1 y2 y3, k7 y0 y1 y2 y3 → k7' y0 y1 y2 y3 → k7'' y0 y1 y2 y3) {Q Q' Q'' : kx_S → Prop} (hQ : ∀ y0, Q y0 → Q' y0 → Q'' y0) : ∀ (l0 : Nat) (l1 : Int32) (l2 : Int32) (l3 : Int32) (σ : kx_S), wX5_readSum_42 re k7 Q l0 l1 l2 l3 σ → vX5_readSum_42 re' k7' Q' l0 l1 l2 l3 σ → wX5_readSum_42 re k7'' Q'' l0 l1 l2 l3 σ := by
  intro l0 l1 l2 l3 σ h v
  unfold wX5_readSum_42 at h
  unfold vX5_readSum_42 at v
  unfold wX5_readSum_42
  refine ⟨h.1, ?_⟩
  have v := v h.1
  have h := h.2
  obtain ⟨a5, e2, h⟩ := h
  refine ⟨a5, e2, ?_⟩
  have v := v a5 e2
  refine ⟨h.1, ?_⟩
  have v := v h.1
  have h := h.2
  refine jcX10_advance ?_ _ _ h v
  intro σ7 h v
  refine ⟨h.1, ?_⟩
  have v := v h.1
  have h := h.2
  refine jcX5_readTerm hre ?_ _ _ _ h v
  intro σ9 h v
  refine ⟨?_, ?_⟩
  · have h := h.1
    have v := v.1
    intro e5
    have h := h e5
    have v := v e5
    exact jcX5_readSum_68 hre hk7 hQ _ _ _ _ _ _ h v
  · have h := h.2
    have v := v.2
    intro e6
    have h := h e6
    have v := v e6
    exact jcX5_readSum_68 hre hk7 hQ _ _ _ _ _ _ h v
set_option maxRecDepth 100000 in
set_option maxHeartbeats 4000000 in
theorem jaX5_readSum_42 {re re' : Nat → Int32 → kx_S → (kx_S → Prop) → Prop} (hre : ∀ {P P' : kx_S → Prop}, (∀ y0, P y0 → P' y0) → ∀ (x0 : Nat) (x1 : Int32) (x2 : kx_S), re x0 x1 x2 P → re' x0 x1 x2 P') {k7 k7' : Nat → Int32 → Int32 → kx_S → Prop} (hk7 : ∀ y0 y1 y2 y3, k7 y0 y1 y2 y3 → k7' y0 y1 y2 y3) {Q Q' : kx_S → Prop} (hQ : ∀ y0, Q y0 → Q' y0) : ∀ (l0 : Nat) (l1 : Int32) (l2 : Int32) (l3 : Int32) (σ : kx_S), wX5_readSum_42 re k7 Q l0 l1 l2 l3 σ → vX5_readSum_42 re' k7' Q' l0 l1 l2 l3 σ := by
  intro l0 l1 l2 l3 σ h
  unfold wX5_readSum_42 at h
  unfold vX5_readSum_42
  intro e1
  have h := h.2
  obtain ⟨a5', e2, h⟩ := h
  intro a5 e3
  have x9 : a5' = a5 := Option.some.inj (e2.symm.trans e3)
  rw [x9] at h
  intro e4
  have h := h.2
  refine jaX10_advance ?_ _ _ h
  intro σ7 h
  intro e5
  have h := h.2
  refine jaX5_readTerm hre ?_ _ _ _ h
  intro σ9 h
  refine ⟨?_, ?_⟩
  · have h := h.1
    intro e6
    have h := h e6
    exact jaX5_readSum_68 hre hk7 hQ _ _ _ _ _ _ h
  · have h := h.2
    intro e7
    have h := h e7
    exact jaX5_readSum_68 hre hk7 hQ _ _ _ _ _ _ h
set_option maxRecDepth 100000 in
set_option maxHeartbeats 4000000 in
theorem jfX5_readSum_42 {I : kx_S → Prop} (W : fw_ I [114, 115, 116, 194, 195, 196, 1001]) {re : Nat → Int32 → kx_S → (kx_S → Prop) → Prop} (hre : ∀ {P : kx_S → Prop}, (∀ y0, I y0 → P y0) → ∀ (x0 : Nat) (x1 : Int32) (x2 : kx_S), I x2 → re x0 x1 x2 P) {k7 : Nat → Int32 → Int32 → kx_S → Prop} (hk7 : ∀ y0 y1 y2 y3, I y3 → k7 y0 y1 y2 y3) {Q : kx_S → Prop} (hQ : ∀ y0, I y0 → Q y0) : ∀ (l0 : Nat) (l1 : Int32) (l2 : Int32) (l3 : Int32) (σ : kx_S), I σ → vX5_readSum_42 re k7 Q l0 l1 l2 l3 σ := by
  intro l0 l1 l2 l3 σ i
  unfold vX5_readSum_42
  intro e1
  intro a5 e2
  intro e3
  refine jfX10_advance (I := I) (fw_sub W (by decide)) ?_ _ _ i
  intro σ7 iσ7
  intro e4
  refine jfX5_readTerm (I := I) (fw_sub W (by decide)) hre ?_ _ _ _ iσ7
  intro σ9 iσ9
  refine ⟨?_, ?_⟩
  · intro e5
    exact jfX5_readSum_68 (I := I) (fw_sub W (by decide)) hre hk7 hQ _ _ _ _ _ _ iσ9
  · intro e6
    exact jfX5_readSum_68 (I := I) (fw_sub W (by decide)) hre hk7 hQ _ _ _ _ _ _ iσ9
def vX5_readSum_7 (re : Nat → Int32 → kx_S → (kx_S → Prop) → Prop) (Q : kx_S → Prop) : Nat → Nat → Int32 → Int32 → kx_S → Prop
  | 0, _, _, _, _ => True
  | n + 1, l0, l1, l2, σ => ((500 ≤ l2 → Q σ) ∧ (¬ (500 ≤ l2) → xt σ l0 = 7 → ((¬ (xi σ 115 l0) = 0 → Q σ) ∧ ((xi σ 115 l0) = 0 → ∀ a15, xr σ 112 l0 = some a15 → xt σ a15 = 12 → ∀ v18, v18 = xi σ 196 a15 → ((v18 = 43 → vX5_readSum_42 re (vX5_readSum_7 re Q n) Q l0 l1 l2 v18 σ) ∧ (¬ (v18 = 43) → ((v18 = 45 → vX5_readSum_42 re (vX5_readSum_7 re Q n) Q l0 l1 l2 v18 σ) ∧ (¬ (v18 = 45) → Q σ))))))))
set_option maxRecDepth 100000 in
set_option maxHeartbeats 4000000 in
theorem jcX5_readSum_7 {re re' : Nat → Int32 → kx_S → (kx_S → Prop) → Prop} (hre : ∀ {P P' P'' : kx_S → Prop}, (∀ y0, P y0 → P' y0 → P'' y0) → ∀ (x0 : Nat) (x1 : Int32) (x2 : kx_S), re x0 x1 x2 P → re' x0 x1 x2 P' → re x0 x1 x2 P'') {Q Q' Q'' : kx_S → Prop} (hQ : ∀ y0, Q y0 → Q' y0 → Q'' y0) : ∀ (n : Nat) (l0 : Nat) (l1 : Int32) (l2 : Int32) (σ : kx_S), wX5_readSum_7 re Q n l0 l1 l2 σ → vX5_readSum_7 re' Q' n l0 l1 l2 σ → wX5_readSum_7 re Q'' n l0 l1 l2 σ := by
  intro n
  induction n with
  | zero => intro l0 l1 l2 σ h; exact h.elim
  | succ n ih =>
    intro l0 l1 l2 σ h v
    unfold wX5_readSum_7 at h
    unfold vX5_readSum_7 at v
    unfold wX5_readSum_7
    refine ⟨?_, ?_⟩
    · have h := h.1
      have v := v.1
      intro e1
      have h := h e1
      have v := v e1
      exact hQ _ h v
    · have h := h.2
      have v := v.2
      intro e2
      have h := h e2
      have v := v e2
      refine ⟨h.1, ?_⟩
      have v := v h.1
      have h := h.2
      refine ⟨?_, ?_⟩
      · have h := h.1
        have v := v.1
        intro e4
        have h := h e4
        have v := v e4
        exact hQ _ h v
      · have h := h.2
        have v := v.2
        intro e5
        have h := h e5
        have v := v e5
        obtain ⟨a15, e6, h⟩ := h
        refine ⟨a15, e6, ?_⟩
        have v := v a15 e6
        refine ⟨h.1, ?_⟩
        have v := v h.1
        have h := h.2
        intro v18 e8
        have h := h v18 e8
        have v := v v18 e8
        refine ⟨?_, ?_⟩
        · have h := h.1
          have v := v.1
          intro e9
          have h := h e9
          have v := v e9
          exact jcX5_readSum_42 hre (k7 := wX5_readSum_7 re Q n) (k7' := vX5_readSum_7 re' Q' n) (k7'' := wX5_readSum_7 re Q'' n) (fun _ _ _ _ h v => ih _ _ _ _ h v) hQ _ _ _ _ _ h v
        · have h := h.2
          have v := v.2
          intro e10
          have h := h e10
          have v := v e10
          refine ⟨?_, ?_⟩
          · have h := h.1
            have v := v.1
            intro e11
            have h := h e11
            have v := v e11
            exact jcX5_readSum_42 hre (k7 := wX5_readSum_7 re Q n) (k7' := vX5_readSum_7 re' Q' n) (k7'' := wX5_readSum_7 re Q'' n) (fun _ _ _ _ h v => ih _ _ _ _ h v) hQ _ _ _ _ _ h v
          · have h := h.2
            have v := v.2
            intro e12
            have h := h e12
            have v := v e12
            exact hQ _ h v
set_option maxRecDepth 100000 in
set_option maxHeartbeats 4000000 in
theorem jaX5_readSum_7 {re re' : Nat → Int32 → kx_S → (kx_S → Prop) → Prop} (hre : ∀ {P P' : kx_S → Prop}, (∀ y0, P y0 → P' y0) → ∀ (x0 : Nat) (x1 : Int32) (x2 : kx_S), re x0 x1 x2 P → re' x0 x1 x2 P') {Q Q' : kx_S → Prop} (hQ : ∀ y0, Q y0 → Q' y0) : ∀ (n m : Nat) (l0 : Nat) (l1 : Int32) (l2 : Int32) (σ : kx_S), wX5_readSum_7 re Q n l0 l1 l2 σ → vX5_readSum_7 re' Q' m l0 l1 l2 σ := by
  intro n
  induction n with
  | zero => intro m l0 l1 l2 σ h; exact h.elim
  | succ n ih =>
    intro m l0 l1 l2 σ h
    cases m with
    | zero => exact trivial
    | succ m =>
      unfold wX5_readSum_7 at h
      unfold vX5_readSum_7
      refine ⟨?_, ?_⟩
      · have h := h.1
        intro e1
        have h := h e1
        exact hQ _ h
      · have h := h.2
        intro e2
        have h := h e2
        intro e3
        have h := h.2
        refine ⟨?_, ?_⟩
        · have h := h.1
          intro e4
          have h := h e4
          exact hQ _ h
        · have h := h.2
          intro e5
          have h := h e5
          obtain ⟨a15', e6, h⟩ := h
          intro a15 e7
          have x9 : a15' = a15 := Option.some.inj (e6.symm.trans e7)
          rw [x9] at h
          intro e8
          have h := h.2
          intro v18 e9
          have h := h v18 e9
          refine ⟨?_, ?_⟩
          · have h := h.1
            intro e10
            have h := h e10
            exact jaX5_readSum_42 hre (k7 := wX5_readSum_7 re Q n) (k7' := vX5_readSum_7 re' Q' m) (fun _ _ _ _ h => ih m _ _ _ _ h) hQ _ _ _ _ _ h
          · have h := h.2
            intro e11
            have h := h e11
            refine ⟨?_, ?_⟩
            · have h := h.1
              intro e12
              have h := h e12
              exact jaX5_readSum_42 hre (k7 := wX5_readSum_7 re Q n) (k7' := vX5_readSum_7 re' Q' m) (fun _ _ _ _ h => ih m _ _ _ _ h) hQ _ _ _ _ _ h
            · have h := h.2
              intro e13
              have h := h e13
              exact hQ _ h
set_option maxRecDepth 100000 in
set_option maxHeartbeats 4000000 in
theorem jfX5_readSum_7 {I : kx_S → Prop} (W : fw_ I [114, 115, 116, 194, 195, 196, 1001]) {re : Nat → Int32 → kx_S → (kx_S → Prop) → Prop} (hre : ∀ {P : kx_S → Prop}, (∀ y0, I y0 → P y0) → ∀ (x0 : Nat) (x1 : Int32) (x2 : kx_S), I x2 → re x0 x1 x2 P) {Q : kx_S → Prop} (hQ : ∀ y0, I y0 → Q y0) : ∀ (n : Nat) (l0 : Nat) (l1 : Int32) (l2 : Int32) (σ : kx_S), I σ → vX5_readSum_7 re Q n l0 l1 l2 σ := by
  intro n
  induction n with
  | zero => intro l0 l1 l2 σ i; exact trivial
  | succ n ih =>
    intro l0 l1 l2 σ i
    unfold vX5_readSum_7
    refine ⟨?_, ?_⟩
    · intro e1
      exact hQ _ i
    · intro e2
      intro e3
      refine ⟨?_, ?_⟩
      · intro e4
        exact hQ _ i
      · intro e5
        intro a15 e6
        intro e7
        intro v18 e8
        refine ⟨?_, ?_⟩
        · intro e9
          exact jfX5_readSum_42 (I := I) (fw_sub W (by decide)) hre (k7 := vX5_readSum_7 re Q n) (fun _ _ _ _ i => ih _ _ _ _ i) hQ _ _ _ _ _ i
        · intro e10
          refine ⟨?_, ?_⟩
          · intro e11
            exact jfX5_readSum_42 (I := I) (fw_sub W (by decide)) hre (k7 := vX5_readSum_7 re Q n) (fun _ _ _ _ i => ih _ _ _ _ i) hQ _ _ _ _ _ i
          · intro e12
            exact hQ _ i
def vX5_readSum (re : Nat → Int32 → kx_S → (kx_S → Prop) → Prop) (l0 : Nat) (l1 : Int32) (σ : kx_S) (Q : kx_S → Prop) : Prop := xt σ l0 = 7 → vX5_readTerm re l0 l1 σ (fun σ21 => ∀ j, vX5_readSum_7 re Q j l0 l1 0 σ21)
set_option maxRecDepth 100000 in
set_option maxHeartbeats 4000000 in
theorem jcX5_readSum {re re' : Nat → Int32 → kx_S → (kx_S → Prop) → Prop} (hre : ∀ {P P' P'' : kx_S → Prop}, (∀ y0, P y0 → P' y0 → P'' y0) → ∀ (x0 : Nat) (x1 : Int32) (x2 : kx_S), re x0 x1 x2 P → re' x0 x1 x2 P' → re x0 x1 x2 P'') {Q Q' Q'' : kx_S → Prop} (hQ : ∀ y0, Q y0 → Q' y0 → Q'' y0) : ∀ (l0 : Nat) (l1 : Int32) (σ : kx_S), wX5_readSum re l0 l1 σ Q → vX5_readSum re' l0 l1 σ Q' → wX5_readSum re l0 l1 σ Q'' := by
  intro l0 l1 σ h v
  unfold wX5_readSum at h
  unfold vX5_readSum at v
  unfold wX5_readSum
  refine ⟨h.1, ?_⟩
  have v := v h.1
  have h := h.2
  refine jcX5_readTerm hre ?_ _ _ _ h v
  intro σ21 h v
  obtain ⟨j, h⟩ := h
  refine ⟨j, ?_⟩
  have v := v j
  exact jcX5_readSum_7 hre hQ _ _ _ _ _ h v
set_option maxRecDepth 100000 in
set_option maxHeartbeats 4000000 in
theorem jaX5_readSum {re re' : Nat → Int32 → kx_S → (kx_S → Prop) → Prop} (hre : ∀ {P P' : kx_S → Prop}, (∀ y0, P y0 → P' y0) → ∀ (x0 : Nat) (x1 : Int32) (x2 : kx_S), re x0 x1 x2 P → re' x0 x1 x2 P') {Q Q' : kx_S → Prop} (hQ : ∀ y0, Q y0 → Q' y0) : ∀ (l0 : Nat) (l1 : Int32) (σ : kx_S), wX5_readSum re l0 l1 σ Q → vX5_readSum re' l0 l1 σ Q' := by
  intro l0 l1 σ h
  unfold wX5_readSum at h
  unfold vX5_readSum
  intro e1
  have h := h.2
  refine jaX5_readTerm hre ?_ _ _ _ h
  intro σ21 h
  obtain ⟨j, h⟩ := h
  intro j9
  exact jaX5_readSum_7 hre hQ _ j9 _ _ _ _ h
set_option maxRecDepth 100000 in
set_option maxHeartbeats 4000000 in
theorem jfX5_readSum {I : kx_S → Prop} (W : fw_ I [114, 115, 116, 194, 195, 196, 1001]) {re : Nat → Int32 → kx_S → (kx_S → Prop) → Prop} (hre : ∀ {P : kx_S → Prop}, (∀ y0, I y0 → P y0) → ∀ (x0 : Nat) (x1 : Int32) (x2 : kx_S), I x2 → re x0 x1 x2 P) {Q : kx_S → Prop} (hQ : ∀ y0, I y0 → Q y0) : ∀ (l0 : Nat) (l1 : Int32) (σ : kx_S), I σ → vX5_readSum re l0 l1 σ Q := by
  intro l0 l1 σ i
  unfold vX5_readSum
  intro e1
  refine jfX5_readTerm (I := I) (fw_sub W (by decide)) hre ?_ _ _ _ i
  intro σ21 iσ21
  intro j
  exact jfX5_readSum_7 (I := I) (fw_sub W (by decide)) hre hQ _ _ _ _ _ iσ21
def vX5_readTest_79 (re : Nat → Int32 → kx_S → (kx_S → Prop) → Prop) (k82 : Nat → Int32 → kx_S → Prop) (Q : kx_S → Prop) (l0 : Nat) (l2 : Int32) (s0 : Int32) (s1 : Nat) (σ : kx_S) : Prop := xt σ s1 = 7 → vX5_put s1 s0 σ (fun σ1 => k82 l0 l2 σ1)
set_option maxRecDepth 100000 in
set_option maxHeartbeats 4000000 in
theorem jcX5_readTest_79 {re re' : Nat → Int32 → kx_S → (kx_S → Prop) → Prop} (hre : ∀ {P P' P'' : kx_S → Prop}, (∀ y0, P y0 → P' y0 → P'' y0) → ∀ (x0 : Nat) (x1 : Int32) (x2 : kx_S), re x0 x1 x2 P → re' x0 x1 x2 P' → re x0 x1 x2 P'') {k82 k82' k82'' : Nat → Int32 → kx_S → Prop} (hk82 : ∀ y0 y1 y2, k82 y0 y1 y2 → k82' y0 y1 y2 → k82'' y0 y1 y2) {Q Q' Q'' : kx_S → Prop} (hQ : ∀ y0, Q y0 → Q' y0 → Q'' y0) : ∀ (l0 : Nat) (l2 : Int32) (s0 : Int32) (s1 : Nat) (σ : kx_S), wX5_readTest_79 re k82 Q l0 l2 s0 s1 σ → vX5_readTest_79 re' k82' Q' l0 l2 s0 s1 σ → wX5_readTest_79 re k82'' Q'' l0 l2 s0 s1 σ := by
  intro l0 l2 s0 s1 σ h v
  unfold wX5_readTest_79 at h
  unfold vX5_readTest_79 at v
  unfold wX5_readTest_79
  refine ⟨h.1, ?_⟩
  have v := v h.1
  have h := h.2
  refine jcX5_put ?_ _ _ _ h v
  intro σ1 h v
  exact hk82 _ _ _ h v
set_option maxRecDepth 100000 in
set_option maxHeartbeats 4000000 in
theorem jaX5_readTest_79 {re re' : Nat → Int32 → kx_S → (kx_S → Prop) → Prop} (hre : ∀ {P P' : kx_S → Prop}, (∀ y0, P y0 → P' y0) → ∀ (x0 : Nat) (x1 : Int32) (x2 : kx_S), re x0 x1 x2 P → re' x0 x1 x2 P') {k82 k82' : Nat → Int32 → kx_S → Prop} (hk82 : ∀ y0 y1 y2, k82 y0 y1 y2 → k82' y0 y1 y2) {Q Q' : kx_S → Prop} (hQ : ∀ y0, Q y0 → Q' y0) : ∀ (l0 : Nat) (l2 : Int32) (s0 : Int32) (s1 : Nat) (σ : kx_S), wX5_readTest_79 re k82 Q l0 l2 s0 s1 σ → vX5_readTest_79 re' k82' Q' l0 l2 s0 s1 σ := by
  intro l0 l2 s0 s1 σ h
  unfold wX5_readTest_79 at h
  unfold vX5_readTest_79
  intro e1
  have h := h.2
  refine jaX5_put ?_ _ _ _ h
  intro σ1 h
  exact hk82 _ _ _ h
set_option maxRecDepth 100000 in
set_option maxHeartbeats 4000000 in
theorem jfX5_readTest_79 {I : kx_S → Prop} (W : fw_ I [114, 115, 116, 194, 195, 196, 1001]) {re : Nat → Int32 → kx_S → (kx_S → Prop) → Prop} (hre : ∀ {P : kx_S → Prop}, (∀ y0, I y0 → P y0) → ∀ (x0 : Nat) (x1 : Int32) (x2 : kx_S), I x2 → re x0 x1 x2 P) {k82 : Nat → Int32 → kx_S → Prop} (hk82 : ∀ y0 y1 y2, I y2 → k82 y0 y1 y2) {Q : kx_S → Prop} (hQ : ∀ y0, I y0 → Q y0) : ∀ (l0 : Nat) (l2 : Int32) (s0 : Int32) (s1 : Nat) (σ : kx_S), I σ → vX5_readTest_79 re k82 Q l0 l2 s0 s1 σ := by
  intro l0 l2 s0 s1 σ i
  unfold vX5_readTest_79
  intro e1
  refine jfX5_put (I := I) (fw_sub W (by decide)) ?_ _ _ _ i
  intro σ1 iσ1
  exact hk82 _ _ _ iσ1
def vX5_readTest_82 (re : Nat → Int32 → kx_S → (kx_S → Prop) → Prop) (Q : kx_S → Prop) (l0 : Nat) (l2 : Int32) (σ : kx_S) : Prop := ((l2 = 0 → Q σ) ∧ (¬ (l2 = 0) → xt σ l0 = 7 → vX5_put l0 (-16) σ (fun σ4 => Q σ4)))
set_option maxRecDepth 100000 in
set_option maxHeartbeats 4000000 in
theorem jcX5_readTest_82 {re re' : Nat → Int32 → kx_S → (kx_S → Prop) → Prop} (hre : ∀ {P P' P'' : kx_S → Prop}, (∀ y0, P y0 → P' y0 → P'' y0) → ∀ (x0 : Nat) (x1 : Int32) (x2 : kx_S), re x0 x1 x2 P → re' x0 x1 x2 P' → re x0 x1 x2 P'') {Q Q' Q'' : kx_S → Prop} (hQ : ∀ y0, Q y0 → Q' y0 → Q'' y0) : ∀ (l0 : Nat) (l2 : Int32) (σ : kx_S), wX5_readTest_82 re Q l0 l2 σ → vX5_readTest_82 re' Q' l0 l2 σ → wX5_readTest_82 re Q'' l0 l2 σ := by
  intro l0 l2 σ h v
  unfold wX5_readTest_82 at h
  unfold vX5_readTest_82 at v
  unfold wX5_readTest_82
  refine ⟨?_, ?_⟩
  · have h := h.1
    have v := v.1
    intro e1
    have h := h e1
    have v := v e1
    exact hQ _ h v
  · have h := h.2
    have v := v.2
    intro e2
    have h := h e2
    have v := v e2
    refine ⟨h.1, ?_⟩
    have v := v h.1
    have h := h.2
    refine jcX5_put ?_ _ _ _ h v
    intro σ4 h v
    exact hQ _ h v
set_option maxRecDepth 100000 in
set_option maxHeartbeats 4000000 in
theorem jaX5_readTest_82 {re re' : Nat → Int32 → kx_S → (kx_S → Prop) → Prop} (hre : ∀ {P P' : kx_S → Prop}, (∀ y0, P y0 → P' y0) → ∀ (x0 : Nat) (x1 : Int32) (x2 : kx_S), re x0 x1 x2 P → re' x0 x1 x2 P') {Q Q' : kx_S → Prop} (hQ : ∀ y0, Q y0 → Q' y0) : ∀ (l0 : Nat) (l2 : Int32) (σ : kx_S), wX5_readTest_82 re Q l0 l2 σ → vX5_readTest_82 re' Q' l0 l2 σ := by
  intro l0 l2 σ h
  unfold wX5_readTest_82 at h
  unfold vX5_readTest_82
  refine ⟨?_, ?_⟩
  · have h := h.1
    intro e1
    have h := h e1
    exact hQ _ h
  · have h := h.2
    intro e2
    have h := h e2
    intro e3
    have h := h.2
    refine jaX5_put ?_ _ _ _ h
    intro σ4 h
    exact hQ _ h
set_option maxRecDepth 100000 in
set_option maxHeartbeats 4000000 in
theorem jfX5_readTest_82 {I : kx_S → Prop} (W : fw_ I [114, 115, 116, 194, 195, 196, 1001]) {re : Nat → Int32 → kx_S → (kx_S → Prop) → Prop} (hre : ∀ {P : kx_S → Prop}, (∀ y0, I y0 → P y0) → ∀ (x0 : Nat) (x1 : Int32) (x2 : kx_S), I x2 → re x0 x1 x2 P) {Q : kx_S → Prop} (hQ : ∀ y0, I y0 → Q y0) : ∀ (l0 : Nat) (l2 : Int32) (σ : kx_S), I σ → vX5_readTest_82 re Q l0 l2 σ := by
  intro l0 l2 σ i
  unfold vX5_readTest_82
  refine ⟨?_, ?_⟩
  · intro e1
    exact hQ _ i
  · intro e2
    intro e3
    refine jfX5_put (I := I) (fw_sub W (by decide)) ?_ _ _ _ i
    intro σ4 iσ4
    exact hQ _ iσ4
def vX5_readTest_53 (re : Nat → Int32 → kx_S → (kx_S → Prop) → Prop) (k82 : Nat → Int32 → kx_S → Prop) (Q : kx_S → Prop) (l0 : Nat) (l1 : Int32) (l2 : Int32) (l3 : Int32) (σ : kx_S) : Prop := xt σ l0 = 7 → ∀ a7, xr σ 112 l0 = some a7 → xt σ a7 = 12 → vX10_advance a7 σ (fun σ9 => xt σ9 l0 = 7 → vX5_readSum re l0 l1 σ9 (fun σ11 => ((¬ l3 = 60 → vX5_readTest_79 re k82 Q l0 l2 (-13) l0 σ11) ∧ (l3 = 60 → vX5_readTest_79 re k82 Q l0 l2 (-12) l0 σ11))))
set_option maxRecDepth 100000 in
set_option maxHeartbeats 4000000 in
theorem jcX5_readTest_53 {re re' : Nat → Int32 → kx_S → (kx_S → Prop) → Prop} (hre : ∀ {P P' P'' : kx_S → Prop}, (∀ y0, P y0 → P' y0 → P'' y0) → ∀ (x0 : Nat) (x1 : Int32) (x2 : kx_S), re x0 x1 x2 P → re' x0 x1 x2 P' → re x0 x1 x2 P'') {k82 k82' k82'' : Nat → Int32 → kx_S → Prop} (hk82 : ∀ y0 y1 y2, k82 y0 y1 y2 → k82' y0 y1 y2 → k82'' y0 y1 y2) {Q Q' Q'' : kx_S → Prop} (hQ : ∀ y0, Q y0 → Q' y0 → Q'' y0) : ∀ (l0 : Nat) (l1 : Int32) (l2 : Int32) (l3 : Int32) (σ : kx_S), wX5_readTest_53 re k82 Q l0 l1 l2 l3 σ → vX5_readTest_53 re' k82' Q' l0 l1 l2 l3 σ → wX5_readTest_53 re k82'' Q'' l0 l1 l2 l3 σ := by
  intro l0 l1 l2 l3 σ h v
  unfold wX5_readTest_53 at h
  unfold vX5_readTest_53 at v
  unfold wX5_readTest_53
  refine ⟨h.1, ?_⟩
  have v := v h.1
  have h := h.2
  obtain ⟨a7, e2, h⟩ := h
  refine ⟨a7, e2, ?_⟩
  have v := v a7 e2
  refine ⟨h.1, ?_⟩
  have v := v h.1
  have h := h.2
  refine jcX10_advance ?_ _ _ h v
  intro σ9 h v
  refine ⟨h.1, ?_⟩
  have v := v h.1
  have h := h.2
  refine jcX5_readSum hre ?_ _ _ _ h v
  intro σ11 h v
  refine ⟨?_, ?_⟩
  · have h := h.1
    have v := v.1
    intro e5
    have h := h e5
    have v := v e5
    exact jcX5_readTest_79 hre hk82 hQ _ _ _ _ _ h v
  · have h := h.2
    have v := v.2
    intro e6
    have h := h e6
    have v := v e6
    exact jcX5_readTest_79 hre hk82 hQ _ _ _ _ _ h v
set_option maxRecDepth 100000 in
set_option maxHeartbeats 4000000 in
theorem jaX5_readTest_53 {re re' : Nat → Int32 → kx_S → (kx_S → Prop) → Prop} (hre : ∀ {P P' : kx_S → Prop}, (∀ y0, P y0 → P' y0) → ∀ (x0 : Nat) (x1 : Int32) (x2 : kx_S), re x0 x1 x2 P → re' x0 x1 x2 P') {k82 k82' : Nat → Int32 → kx_S → Prop} (hk82 : ∀ y0 y1 y2, k82 y0 y1 y2 → k82' y0 y1 y2) {Q Q' : kx_S → Prop} (hQ : ∀ y0, Q y0 → Q' y0) : ∀ (l0 : Nat) (l1 : Int32) (l2 : Int32) (l3 : Int32) (σ : kx_S), wX5_readTest_53 re k82 Q l0 l1 l2 l3 σ → vX5_readTest_53 re' k82' Q' l0 l1 l2 l3 σ := by
  intro l0 l1 l2 l3 σ h
  unfold wX5_readTest_53 at h
  unfold vX5_readTest_53
  intro e1
  have h := h.2
  obtain ⟨a7', e2, h⟩ := h
  intro a7 e3
  have x9 : a7' = a7 := Option.some.inj (e2.symm.trans e3)
  rw [x9] at h
  intro e4
  have h := h.2
  refine jaX10_advance ?_ _ _ h
  intro σ9 h
  intro e5
  have h := h.2
  refine jaX5_readSum hre ?_ _ _ _ h
  intro σ11 h
  refine ⟨?_, ?_⟩
  · have h := h.1
    intro e6
    have h := h e6
    exact jaX5_readTest_79 hre hk82 hQ _ _ _ _ _ h
  · have h := h.2
    intro e7
    have h := h e7
    exact jaX5_readTest_79 hre hk82 hQ _ _ _ _ _ h
set_option maxRecDepth 100000 in
set_option maxHeartbeats 4000000 in
theorem jfX5_readTest_53 {I : kx_S → Prop} (W : fw_ I [114, 115, 116, 194, 195, 196, 1001]) {re : Nat → Int32 → kx_S → (kx_S → Prop) → Prop} (hre : ∀ {P : kx_S → Prop}, (∀ y0, I y0 → P y0) → ∀ (x0 : Nat) (x1 : Int32) (x2 : kx_S), I x2 → re x0 x1 x2 P) {k82 : Nat → Int32 → kx_S → Prop} (hk82 : ∀ y0 y1 y2, I y2 → k82 y0 y1 y2) {Q : kx_S → Prop} (hQ : ∀ y0, I y0 → Q y0) : ∀ (l0 : Nat) (l1 : Int32) (l2 : Int32) (l3 : Int32) (σ : kx_S), I σ → vX5_readTest_53 re k82 Q l0 l1 l2 l3 σ := by
  intro l0 l1 l2 l3 σ i
  unfold vX5_readTest_53
  intro e1
  intro a7 e2
  intro e3
  refine jfX10_advance (I := I) (fw_sub W (by decide)) ?_ _ _ i
  intro σ9 iσ9
  intro e4
  refine jfX5_readSum (I := I) (fw_sub W (by decide)) hre ?_ _ _ _ iσ9
  intro σ11 iσ11
  refine ⟨?_, ?_⟩
  · intro e5
    exact jfX5_readTest_79 (I := I) (fw_sub W (by decide)) hre hk82 hQ _ _ _ _ _ iσ11
  · intro e6
    exact jfX5_readTest_79 (I := I) (fw_sub W (by decide)) hre hk82 hQ _ _ _ _ _ iσ11
def vX5_readTest_21 (re : Nat → Int32 → kx_S → (kx_S → Prop) → Prop) (Q : kx_S → Prop) (l0 : Nat) (l1 : Int32) (l2 : Int32) (σ : kx_S) : Prop := xt σ l0 = 7 → vX5_readSum re l0 l1 σ (fun σ14 => xt σ14 l0 = 7 → ∀ a17, xr σ14 112 l0 = some a17 → xt σ14 a17 = 12 → ∀ v20, v20 = xi σ14 196 a17 → ((¬ (xi σ14 115 l0) = 0 → vX5_readTest_82 re Q l0 l2 σ14) ∧ ((xi σ14 115 l0) = 0 → ((v20 = 60 → vX5_readTest_53 re (vX5_readTest_82 re Q) Q l0 l1 l2 v20 σ14) ∧ (¬ (v20 = 60) → ((¬ v20 = 61 → vX5_readTest_82 re Q l0 l2 σ14) ∧ (v20 = 61 → vX5_readTest_53 re (vX5_readTest_82 re Q) Q l0 l1 l2 v20 σ14)))))))
set_option maxRecDepth 100000 in
set_option maxHeartbeats 4000000 in
theorem jcX5_readTest_21 {re re' : Nat → Int32 → kx_S → (kx_S → Prop) → Prop} (hre : ∀ {P P' P'' : kx_S → Prop}, (∀ y0, P y0 → P' y0 → P'' y0) → ∀ (x0 : Nat) (x1 : Int32) (x2 : kx_S), re x0 x1 x2 P → re' x0 x1 x2 P' → re x0 x1 x2 P'') {Q Q' Q'' : kx_S → Prop} (hQ : ∀ y0, Q y0 → Q' y0 → Q'' y0) : ∀ (l0 : Nat) (l1 : Int32) (l2 : Int32) (σ : kx_S), wX5_readTest_21 re Q l0 l1 l2 σ → vX5_readTest_21 re' Q' l0 l1 l2 σ → wX5_readTest_21 re Q'' l0 l1 l2 σ := by
  intro l0 l1 l2 σ h v
  unfold wX5_readTest_21 at h
  unfold vX5_readTest_21 at v
  unfold wX5_readTest_21
  refine ⟨h.1, ?_⟩
  have v := v h.1
  have h := h.2
  refine jcX5_readSum hre ?_ _ _ _ h v
  intro σ14 h v
  refine ⟨h.1, ?_⟩
  have v := v h.1
  have h := h.2
  obtain ⟨a17, e3, h⟩ := h
  refine ⟨a17, e3, ?_⟩
  have v := v a17 e3
  refine ⟨h.1, ?_⟩
  have v := v h.1
  have h := h.2
  intro v20 e5
  have h := h v20 e5
  have v := v v20 e5
  refine ⟨?_, ?_⟩
  · have h := h.1
    have v := v.1
    intro e6
    have h := h e6
    have v := v e6
    exact jcX5_readTest_82 hre hQ _ _ _ h v
  · have h := h.2
    have v := v.2
    intro e7
    have h := h e7
    have v := v e7
    refine ⟨?_, ?_⟩
    · have h := h.1
      have v := v.1
      intro e8
      have h := h e8
      have v := v e8
      exact jcX5_readTest_53 hre (k82 := wX5_readTest_82 re Q) (k82' := vX5_readTest_82 re' Q') (k82'' := wX5_readTest_82 re Q'') (fun _ _ _ h v => jcX5_readTest_82 hre hQ _ _ _ h v) hQ _ _ _ _ _ h v
    · have h := h.2
      have v := v.2
      intro e9
      have h := h e9
      have v := v e9
      refine ⟨?_, ?_⟩
      · have h := h.1
        have v := v.1
        intro e10
        have h := h e10
        have v := v e10
        exact jcX5_readTest_82 hre hQ _ _ _ h v
      · have h := h.2
        have v := v.2
        intro e11
        have h := h e11
        have v := v e11
        exact jcX5_readTest_53 hre (k82 := wX5_readTest_82 re Q) (k82' := vX5_readTest_82 re' Q') (k82'' := wX5_readTest_82 re Q'') (fun _ _ _ h v => jcX5_readTest_82 hre hQ _ _ _ h v) hQ _ _ _ _ _ h v
set_option maxRecDepth 100000 in
set_option maxHeartbeats 4000000 in
theorem jaX5_readTest_21 {re re' : Nat → Int32 → kx_S → (kx_S → Prop) → Prop} (hre : ∀ {P P' : kx_S → Prop}, (∀ y0, P y0 → P' y0) → ∀ (x0 : Nat) (x1 : Int32) (x2 : kx_S), re x0 x1 x2 P → re' x0 x1 x2 P') {Q Q' : kx_S → Prop} (hQ : ∀ y0, Q y0 → Q' y0) : ∀ (l0 : Nat) (l1 : Int32) (l2 : Int32) (σ : kx_S), wX5_readTest_21 re Q l0 l1 l2 σ → vX5_readTest_21 re' Q' l0 l1 l2 σ := by
  intro l0 l1 l2 σ h
  unfold wX5_readTest_21 at h
  unfold vX5_readTest_21
  intro e1
  have h := h.2
  refine jaX5_readSum hre ?_ _ _ _ h
  intro σ14 h
  intro e2
  have h := h.2
  obtain ⟨a17', e3, h⟩ := h
  intro a17 e4
  have x9 : a17' = a17 := Option.some.inj (e3.symm.trans e4)
  rw [x9] at h
  intro e5
  have h := h.2
  intro v20 e6
  have h := h v20 e6
  refine ⟨?_, ?_⟩
  · have h := h.1
    intro e7
    have h := h e7
    exact jaX5_readTest_82 hre hQ _ _ _ h
  · have h := h.2
    intro e8
    have h := h e8
    refine ⟨?_, ?_⟩
    · have h := h.1
      intro e9
      have h := h e9
      exact jaX5_readTest_53 hre (k82 := wX5_readTest_82 re Q) (k82' := vX5_readTest_82 re' Q') (fun _ _ _ h => jaX5_readTest_82 hre hQ _ _ _ h) hQ _ _ _ _ _ h
    · have h := h.2
      intro e10
      have h := h e10
      refine ⟨?_, ?_⟩
      · have h := h.1
        intro e11
        have h := h e11
        exact jaX5_readTest_82 hre hQ _ _ _ h
      · have h := h.2
        intro e12
        have h := h e12
        exact jaX5_readTest_53 hre (k82 := wX5_readTest_82 re Q) (k82' := vX5_readTest_82 re' Q') (fun _ _ _ h => jaX5_readTest_82 hre hQ _ _ _ h) hQ _ _ _ _ _ h
set_option maxRecDepth 100000 in
set_option maxHeartbeats 4000000 in
theorem jfX5_readTest_21 {I : kx_S → Prop} (W : fw_ I [114, 115, 116, 194, 195, 196, 1001]) {re : Nat → Int32 → kx_S → (kx_S → Prop) → Prop} (hre : ∀ {P : kx_S → Prop}, (∀ y0, I y0 → P y0) → ∀ (x0 : Nat) (x1 : Int32) (x2 : kx_S), I x2 → re x0 x1 x2 P) {Q : kx_S → Prop} (hQ : ∀ y0, I y0 → Q y0) : ∀ (l0 : Nat) (l1 : Int32) (l2 : Int32) (σ : kx_S), I σ → vX5_readTest_21 re Q l0 l1 l2 σ := by
  intro l0 l1 l2 σ i
  unfold vX5_readTest_21
  intro e1
  refine jfX5_readSum (I := I) (fw_sub W (by decide)) hre ?_ _ _ _ i
  intro σ14 iσ14
  intro e2
  intro a17 e3
  intro e4
  intro v20 e5
  refine ⟨?_, ?_⟩
  · intro e6
    exact jfX5_readTest_82 (I := I) (fw_sub W (by decide)) hre hQ _ _ _ iσ14
  · intro e7
    refine ⟨?_, ?_⟩
    · intro e8
      exact jfX5_readTest_53 (I := I) (fw_sub W (by decide)) hre (k82 := vX5_readTest_82 re Q) (fun _ _ _ i => jfX5_readTest_82 (I := I) (fw_sub W (by decide)) hre hQ _ _ _ i) hQ _ _ _ _ _ iσ14
    · intro e9
      refine ⟨?_, ?_⟩
      · intro e10
        exact jfX5_readTest_82 (I := I) (fw_sub W (by decide)) hre hQ _ _ _ iσ14
      · intro e11
        exact jfX5_readTest_53 (I := I) (fw_sub W (by decide)) hre (k82 := vX5_readTest_82 re Q) (fun _ _ _ i => jfX5_readTest_82 (I := I) (fw_sub W (by decide)) hre hQ _ _ _ i) hQ _ _ _ _ _ iσ14
def vX5_readTest (re : Nat → Int32 → kx_S → (kx_S → Prop) → Prop) (l0 : Nat) (l1 : Int32) (σ : kx_S) (Q : kx_S → Prop) : Prop := xt σ l0 = 7 → ∀ a25, xr σ 112 l0 = some a25 → xt σ a25 = 12 → vX10_isWord a25 11 σ (fun r28 σ27 => ((r28 = 0 → vX5_readTest_21 re Q l0 l1 r28 σ27) ∧ (¬ (r28 = 0) → xt σ27 l0 = 7 → ∀ a32, xr σ27 112 l0 = some a32 → xt σ27 a32 = 12 → vX10_advance a32 σ27 (fun σ34 => vX5_readTest_21 re Q l0 l1 r28 σ34))))
set_option maxRecDepth 100000 in
set_option maxHeartbeats 4000000 in
theorem jcX5_readTest {re re' : Nat → Int32 → kx_S → (kx_S → Prop) → Prop} (hre : ∀ {P P' P'' : kx_S → Prop}, (∀ y0, P y0 → P' y0 → P'' y0) → ∀ (x0 : Nat) (x1 : Int32) (x2 : kx_S), re x0 x1 x2 P → re' x0 x1 x2 P' → re x0 x1 x2 P'') {Q Q' Q'' : kx_S → Prop} (hQ : ∀ y0, Q y0 → Q' y0 → Q'' y0) : ∀ (l0 : Nat) (l1 : Int32) (σ : kx_S), wX5_readTest re l0 l1 σ Q → vX5_readTest re' l0 l1 σ Q' → wX5_readTest re l0 l1 σ Q'' := by
  intro l0 l1 σ h v
  unfold wX5_readTest at h
  unfold vX5_readTest at v
  unfold wX5_readTest
  refine ⟨h.1, ?_⟩
  have v := v h.1
  have h := h.2
  obtain ⟨a25, e2, h⟩ := h
  refine ⟨a25, e2, ?_⟩
  have v := v a25 e2
  refine ⟨h.1, ?_⟩
  have v := v h.1
  have h := h.2
  refine jcX10_isWord ?_ _ _ _ h v
  intro r28 σ27 h v
  refine ⟨?_, ?_⟩
  · have h := h.1
    have v := v.1
    intro e4
    have h := h e4
    have v := v e4
    exact jcX5_readTest_21 hre hQ _ _ _ _ h v
  · have h := h.2
    have v := v.2
    intro e5
    have h := h e5
    have v := v e5
    refine ⟨h.1, ?_⟩
    have v := v h.1
    have h := h.2
    obtain ⟨a32, e7, h⟩ := h
    refine ⟨a32, e7, ?_⟩
    have v := v a32 e7
    refine ⟨h.1, ?_⟩
    have v := v h.1
    have h := h.2
    refine jcX10_advance ?_ _ _ h v
    intro σ34 h v
    exact jcX5_readTest_21 hre hQ _ _ _ _ h v
set_option maxRecDepth 100000 in
set_option maxHeartbeats 4000000 in
theorem jaX5_readTest {re re' : Nat → Int32 → kx_S → (kx_S → Prop) → Prop} (hre : ∀ {P P' : kx_S → Prop}, (∀ y0, P y0 → P' y0) → ∀ (x0 : Nat) (x1 : Int32) (x2 : kx_S), re x0 x1 x2 P → re' x0 x1 x2 P') {Q Q' : kx_S → Prop} (hQ : ∀ y0, Q y0 → Q' y0) : ∀ (l0 : Nat) (l1 : Int32) (σ : kx_S), wX5_readTest re l0 l1 σ Q → vX5_readTest re' l0 l1 σ Q' := by
  intro l0 l1 σ h
  unfold wX5_readTest at h
  unfold vX5_readTest
  intro e1
  have h := h.2
  obtain ⟨a25', e2, h⟩ := h
  intro a25 e3
  have x9 : a25' = a25 := Option.some.inj (e2.symm.trans e3)
  rw [x9] at h
  intro e4
  have h := h.2
  refine jaX10_isWord ?_ _ _ _ h
  intro r28 σ27 h
  refine ⟨?_, ?_⟩
  · have h := h.1
    intro e5
    have h := h e5
    exact jaX5_readTest_21 hre hQ _ _ _ _ h
  · have h := h.2
    intro e6
    have h := h e6
    intro e7
    have h := h.2
    obtain ⟨a32', e8, h⟩ := h
    intro a32 e9
    have x9 : a32' = a32 := Option.some.inj (e8.symm.trans e9)
    rw [x9] at h
    intro e10
    have h := h.2
    refine jaX10_advance ?_ _ _ h
    intro σ34 h
    exact jaX5_readTest_21 hre hQ _ _ _ _ h
set_option maxRecDepth 100000 in
set_option maxHeartbeats 4000000 in
theorem jfX5_readTest {I : kx_S → Prop} (W : fw_ I [114, 115, 116, 194, 195, 196, 1001]) {re : Nat → Int32 → kx_S → (kx_S → Prop) → Prop} (hre : ∀ {P : kx_S → Prop}, (∀ y0, I y0 → P y0) → ∀ (x0 : Nat) (x1 : Int32) (x2 : kx_S), I x2 → re x0 x1 x2 P) {Q : kx_S → Prop} (hQ : ∀ y0, I y0 → Q y0) : ∀ (l0 : Nat) (l1 : Int32) (σ : kx_S), I σ → vX5_readTest re l0 l1 σ Q := by
  intro l0 l1 σ i
  unfold vX5_readTest
  intro e1
  intro a25 e2
  intro e3
  refine jfX10_isWord (I := I) (fw_sub W (by decide)) ?_ _ _ _ i
  intro r28 σ27 iσ27
  refine ⟨?_, ?_⟩
  · intro e4
    exact jfX5_readTest_21 (I := I) (fw_sub W (by decide)) hre hQ _ _ _ _ iσ27
  · intro e5
    intro e6
    intro a32 e7
    intro e8
    refine jfX10_advance (I := I) (fw_sub W (by decide)) ?_ _ _ iσ27
    intro σ34 iσ34
    exact jfX5_readTest_21 (I := I) (fw_sub W (by decide)) hre hQ _ _ _ _ iσ34
end
section
def vX5_readExpr_37 (re : Nat → Int32 → kx_S → (kx_S → Prop) → Prop) (Q : kx_S → Prop) (s0 : Int32) (s1 : Nat) (σ : kx_S) : Prop := xt σ s1 = 7 → vX5_fail s1 s0 σ (fun σ1 => Q σ1)
set_option maxRecDepth 100000 in
set_option maxHeartbeats 4000000 in
theorem jcX5_readExpr_37 {re re' : Nat → Int32 → kx_S → (kx_S → Prop) → Prop} (hre : ∀ {P P' P'' : kx_S → Prop}, (∀ y0, P y0 → P' y0 → P'' y0) → ∀ (x0 : Nat) (x1 : Int32) (x2 : kx_S), re x0 x1 x2 P → re' x0 x1 x2 P' → re x0 x1 x2 P'') {Q Q' Q'' : kx_S → Prop} (hQ : ∀ y0, Q y0 → Q' y0 → Q'' y0) : ∀ (s0 : Int32) (s1 : Nat) (σ : kx_S), wX5_readExpr_37 re Q s0 s1 σ → vX5_readExpr_37 re' Q' s0 s1 σ → wX5_readExpr_37 re Q'' s0 s1 σ := by
  intro s0 s1 σ h v
  unfold wX5_readExpr_37 at h
  unfold vX5_readExpr_37 at v
  unfold wX5_readExpr_37
  refine ⟨h.1, ?_⟩
  have v := v h.1
  have h := h.2
  refine jcX5_fail ?_ _ _ _ h v
  intro σ1 h v
  exact hQ _ h v
set_option maxRecDepth 100000 in
set_option maxHeartbeats 4000000 in
theorem jaX5_readExpr_37 {re re' : Nat → Int32 → kx_S → (kx_S → Prop) → Prop} (hre : ∀ {P P' : kx_S → Prop}, (∀ y0, P y0 → P' y0) → ∀ (x0 : Nat) (x1 : Int32) (x2 : kx_S), re x0 x1 x2 P → re' x0 x1 x2 P') {Q Q' : kx_S → Prop} (hQ : ∀ y0, Q y0 → Q' y0) : ∀ (s0 : Int32) (s1 : Nat) (σ : kx_S), wX5_readExpr_37 re Q s0 s1 σ → vX5_readExpr_37 re' Q' s0 s1 σ := by
  intro s0 s1 σ h
  unfold wX5_readExpr_37 at h
  unfold vX5_readExpr_37
  intro e1
  have h := h.2
  refine jaX5_fail ?_ _ _ _ h
  intro σ1 h
  exact hQ _ h
set_option maxRecDepth 100000 in
set_option maxHeartbeats 4000000 in
theorem jfX5_readExpr_37 {I : kx_S → Prop} (W : fw_ I [114, 115, 116, 194, 195, 196, 1001]) {re : Nat → Int32 → kx_S → (kx_S → Prop) → Prop} (hre : ∀ {P : kx_S → Prop}, (∀ y0, I y0 → P y0) → ∀ (x0 : Nat) (x1 : Int32) (x2 : kx_S), I x2 → re x0 x1 x2 P) {Q : kx_S → Prop} (hQ : ∀ y0, I y0 → Q y0) : ∀ (s0 : Int32) (s1 : Nat) (σ : kx_S), I σ → vX5_readExpr_37 re Q s0 s1 σ := by
  intro s0 s1 σ i
  unfold vX5_readExpr_37
  intro e1
  refine jfX5_fail (I := I) (fw_sub W (by decide)) ?_ _ _ _ i
  intro σ1 iσ1
  exact hQ _ iσ1
def vX5_readExpr_113 (re : Nat → Int32 → kx_S → (kx_S → Prop) → Prop) (k48 : Nat → Int32 → Int32 → kx_S → Prop) (Q : kx_S → Prop) (l0 : Nat) (l1 : Int32) (l2 : Int32) (s0 : Int32) (s1 : Nat) (σ : kx_S) : Prop := xt σ s1 = 7 → vX5_put s1 s0 σ (fun σ3 => ∀ v5 : Int32, v5 = l2 + 1 → k48 l0 l1 v5 σ3)
set_option maxRecDepth 100000 in
set_option maxHeartbeats 4000000 in
theorem jcX5_readExpr_113 {re re' : Nat → Int32 → kx_S → (kx_S → Prop) → Prop} (hre : ∀ {P P' P'' : kx_S → Prop}, (∀ y0, P y0 → P' y0 → P'' y0) → ∀ (x0 : Nat) (x1 : Int32) (x2 : kx_S), re x0 x1 x2 P → re' x0 x1 x2 P' → re x0 x1 x2 P'') {k48 k48' k48'' : Nat → Int32 → Int32 → kx_S → Prop} (hk48 : ∀ y0 y1 y2 y3, k48 y0 y1 y2 y3 → k48' y0 y1 y2 y3 → k48'' y0 y1 y2 y3) {Q Q' Q'' : kx_S → Prop} (hQ : ∀ y0, Q y0 → Q' y0 → Q'' y0) : ∀ (l0 : Nat) (l1 : Int32) (l2 : Int32) (s0 : Int32) (s1 : Nat) (σ : kx_S), wX5_readExpr_113 re k48 Q l0 l1 l2 s0 s1 σ → vX5_readExpr_113 re' k48' Q' l0 l1 l2 s0 s1 σ → wX5_readExpr_113 re k48'' Q'' l0 l1 l2 s0 s1 σ := by
  intro l0 l1 l2 s0 s1 σ h v
  unfold wX5_readExpr_113 at h
  unfold vX5_readExpr_113 at v
  unfold wX5_readExpr_113
  refine ⟨h.1, ?_⟩
  have v := v h.1
  have h := h.2
  refine jcX5_put ?_ _ _ _ h v
  intro σ3 h v
  intro v5 e2
  have h := h v5 e2
  have v := v v5 e2
  exact hk48 _ _ _ _ h v
set_option maxRecDepth 100000 in
set_option maxHeartbeats 4000000 in
theorem jaX5_readExpr_113 {re re' : Nat → Int32 → kx_S → (kx_S → Prop) → Prop} (hre : ∀ {P P' : kx_S → Prop}, (∀ y0, P y0 → P' y0) → ∀ (x0 : Nat) (x1 : Int32) (x2 : kx_S), re x0 x1 x2 P → re' x0 x1 x2 P') {k48 k48' : Nat → Int32 → Int32 → kx_S → Prop} (hk48 : ∀ y0 y1 y2 y3, k48 y0 y1 y2 y3 → k48' y0 y1 y2 y3) {Q Q' : kx_S → Prop} (hQ : ∀ y0, Q y0 → Q' y0) : ∀ (l0 : Nat) (l1 : Int32) (l2 : Int32) (s0 : Int32) (s1 : Nat) (σ : kx_S), wX5_readExpr_113 re k48 Q l0 l1 l2 s0 s1 σ → vX5_readExpr_113 re' k48' Q' l0 l1 l2 s0 s1 σ := by
  intro l0 l1 l2 s0 s1 σ h
  unfold wX5_readExpr_113 at h
  unfold vX5_readExpr_113
  intro e1
  have h := h.2
  refine jaX5_put ?_ _ _ _ h
  intro σ3 h
  intro v5 e2
  have h := h v5 e2
  exact hk48 _ _ _ _ h
set_option maxRecDepth 100000 in
set_option maxHeartbeats 4000000 in
theorem jfX5_readExpr_113 {I : kx_S → Prop} (W : fw_ I [114, 115, 116, 194, 195, 196, 1001]) {re : Nat → Int32 → kx_S → (kx_S → Prop) → Prop} (hre : ∀ {P : kx_S → Prop}, (∀ y0, I y0 → P y0) → ∀ (x0 : Nat) (x1 : Int32) (x2 : kx_S), I x2 → re x0 x1 x2 P) {k48 : Nat → Int32 → Int32 → kx_S → Prop} (hk48 : ∀ y0 y1 y2 y3, I y3 → k48 y0 y1 y2 y3) {Q : kx_S → Prop} (hQ : ∀ y0, I y0 → Q y0) : ∀ (l0 : Nat) (l1 : Int32) (l2 : Int32) (s0 : Int32) (s1 : Nat) (σ : kx_S), I σ → vX5_readExpr_113 re k48 Q l0 l1 l2 s0 s1 σ := by
  intro l0 l1 l2 s0 s1 σ i
  unfold vX5_readExpr_113
  intro e1
  refine jfX5_put (I := I) (fw_sub W (by decide)) ?_ _ _ _ i
  intro σ3 iσ3
  intro v5 e2
  exact hk48 _ _ _ _ iσ3
def vX5_readExpr_26 (re : Nat → Int32 → kx_S → (kx_S → Prop) → Prop) (Q : kx_S → Prop) (l0 : Nat) (s0 : Int32) (σ : kx_S) : Prop := ((¬ s0 = 0 → vX5_readExpr_37 re Q s0 l0 σ) ∧ (s0 = 0 → vX5_readExpr_37 re Q 2 l0 σ))
set_option maxRecDepth 100000 in
set_option maxHeartbeats 4000000 in
theorem jcX5_readExpr_26 {re re' : Nat → Int32 → kx_S → (kx_S → Prop) → Prop} (hre : ∀ {P P' P'' : kx_S → Prop}, (∀ y0, P y0 → P' y0 → P'' y0) → ∀ (x0 : Nat) (x1 : Int32) (x2 : kx_S), re x0 x1 x2 P → re' x0 x1 x2 P' → re x0 x1 x2 P'') {Q Q' Q'' : kx_S → Prop} (hQ : ∀ y0, Q y0 → Q' y0 → Q'' y0) : ∀ (l0 : Nat) (s0 : Int32) (σ : kx_S), wX5_readExpr_26 re Q l0 s0 σ → vX5_readExpr_26 re' Q' l0 s0 σ → wX5_readExpr_26 re Q'' l0 s0 σ := by
  intro l0 s0 σ h v
  unfold wX5_readExpr_26 at h
  unfold vX5_readExpr_26 at v
  unfold wX5_readExpr_26
  refine ⟨?_, ?_⟩
  · have h := h.1
    have v := v.1
    intro e1
    have h := h e1
    have v := v e1
    exact jcX5_readExpr_37 hre hQ _ _ _ h v
  · have h := h.2
    have v := v.2
    intro e2
    have h := h e2
    have v := v e2
    exact jcX5_readExpr_37 hre hQ _ _ _ h v
set_option maxRecDepth 100000 in
set_option maxHeartbeats 4000000 in
theorem jaX5_readExpr_26 {re re' : Nat → Int32 → kx_S → (kx_S → Prop) → Prop} (hre : ∀ {P P' : kx_S → Prop}, (∀ y0, P y0 → P' y0) → ∀ (x0 : Nat) (x1 : Int32) (x2 : kx_S), re x0 x1 x2 P → re' x0 x1 x2 P') {Q Q' : kx_S → Prop} (hQ : ∀ y0, Q y0 → Q' y0) : ∀ (l0 : Nat) (s0 : Int32) (σ : kx_S), wX5_readExpr_26 re Q l0 s0 σ → vX5_readExpr_26 re' Q' l0 s0 σ := by
  intro l0 s0 σ h
  unfold wX5_readExpr_26 at h
  unfold vX5_readExpr_26
  refine ⟨?_, ?_⟩
  · have h := h.1
    intro e1
    have h := h e1
    exact jaX5_readExpr_37 hre hQ _ _ _ h
  · have h := h.2
    intro e2
    have h := h e2
    exact jaX5_readExpr_37 hre hQ _ _ _ h
set_option maxRecDepth 100000 in
set_option maxHeartbeats 4000000 in
theorem jfX5_readExpr_26 {I : kx_S → Prop} (W : fw_ I [114, 115, 116, 194, 195, 196, 1001]) {re : Nat → Int32 → kx_S → (kx_S → Prop) → Prop} (hre : ∀ {P : kx_S → Prop}, (∀ y0, I y0 → P y0) → ∀ (x0 : Nat) (x1 : Int32) (x2 : kx_S), I x2 → re x0 x1 x2 P) {Q : kx_S → Prop} (hQ : ∀ y0, I y0 → Q y0) : ∀ (l0 : Nat) (s0 : Int32) (σ : kx_S), I σ → vX5_readExpr_26 re Q l0 s0 σ := by
  intro l0 s0 σ i
  unfold vX5_readExpr_26
  refine ⟨?_, ?_⟩
  · intro e1
    exact jfX5_readExpr_37 (I := I) (fw_sub W (by decide)) hre hQ _ _ _ i
  · intro e2
    exact jfX5_readExpr_37 (I := I) (fw_sub W (by decide)) hre hQ _ _ _ i
def vX5_readExpr_89 (re : Nat → Int32 → kx_S → (kx_S → Prop) → Prop) (k48 : Nat → Int32 → Int32 → kx_S → Prop) (Q : kx_S → Prop) (l0 : Nat) (l1 : Int32) (l2 : Int32) (l3 : Int32) (σ : kx_S) : Prop := xt σ l0 = 7 → ∀ a8, xr σ 112 l0 = some a8 → xt σ a8 = 12 → vX10_advance a8 σ (fun σ10 => xt σ10 l0 = 7 → vX5_readTest re l0 l1 σ10 (fun σ12 => ((l3 = 0 → vX5_readExpr_113 re k48 Q l0 l1 l2 (-15) l0 σ12) ∧ (¬ (l3 = 0) → vX5_readExpr_113 re k48 Q l0 l1 l2 (-14) l0 σ12))))
set_option maxRecDepth 100000 in
set_option maxHeartbeats 4000000 in
theorem jcX5_readExpr_89 {re re' : Nat → Int32 → kx_S → (kx_S → Prop) → Prop} (hre : ∀ {P P' P'' : kx_S → Prop}, (∀ y0, P y0 → P' y0 → P'' y0) → ∀ (x0 : Nat) (x1 : Int32) (x2 : kx_S), re x0 x1 x2 P → re' x0 x1 x2 P' → re x0 x1 x2 P'') {k48 k48' k48'' : Nat → Int32 → Int32 → kx_S → Prop} (hk48 : ∀ y0 y1 y2 y3, k48 y0 y1 y2 y3 → k48' y0 y1 y2 y3 → k48'' y0 y1 y2 y3) {Q Q' Q'' : kx_S → Prop} (hQ : ∀ y0, Q y0 → Q' y0 → Q'' y0) : ∀ (l0 : Nat) (l1 : Int32) (l2 : Int32) (l3 : Int32) (σ : kx_S), wX5_readExpr_89 re k48 Q l0 l1 l2 l3 σ → vX5_readExpr_89 re' k48' Q' l0 l1 l2 l3 σ → wX5_readExpr_89 re k48'' Q'' l0 l1 l2 l3 σ := by
  intro l0 l1 l2 l3 σ h v
  unfold wX5_readExpr_89 at h
  unfold vX5_readExpr_89 at v
  unfold wX5_readExpr_89
  refine ⟨h.1, ?_⟩
  have v := v h.1
  have h := h.2
  obtain ⟨a8, e2, h⟩ := h
  refine ⟨a8, e2, ?_⟩
  have v := v a8 e2
  refine ⟨h.1, ?_⟩
  have v := v h.1
  have h := h.2
  refine jcX10_advance ?_ _ _ h v
  intro σ10 h v
  refine ⟨h.1, ?_⟩
  have v := v h.1
  have h := h.2
  refine jcX5_readTest hre ?_ _ _ _ h v
  intro σ12 h v
  refine ⟨?_, ?_⟩
  · have h := h.1
    have v := v.1
    intro e5
    have h := h e5
    have v := v e5
    exact jcX5_readExpr_113 hre hk48 hQ _ _ _ _ _ _ h v
  · have h := h.2
    have v := v.2
    intro e6
    have h := h e6
    have v := v e6
    exact jcX5_readExpr_113 hre hk48 hQ _ _ _ _ _ _ h v
set_option maxRecDepth 100000 in
set_option maxHeartbeats 4000000 in
theorem jaX5_readExpr_89 {re re' : Nat → Int32 → kx_S → (kx_S → Prop) → Prop} (hre : ∀ {P P' : kx_S → Prop}, (∀ y0, P y0 → P' y0) → ∀ (x0 : Nat) (x1 : Int32) (x2 : kx_S), re x0 x1 x2 P → re' x0 x1 x2 P') {k48 k48' : Nat → Int32 → Int32 → kx_S → Prop} (hk48 : ∀ y0 y1 y2 y3, k48 y0 y1 y2 y3 → k48' y0 y1 y2 y3) {Q Q' : kx_S → Prop} (hQ : ∀ y0, Q y0 → Q' y0) : ∀ (l0 : Nat) (l1 : Int32) (l2 : Int32) (l3 : Int32) (σ : kx_S), wX5_readExpr_89 re k48 Q l0 l1 l2 l3 σ → vX5_readExpr_89 re' k48' Q' l0 l1 l2 l3 σ := by
  intro l0 l1 l2 l3 σ h
  unfold wX5_readExpr_89 at h
  unfold vX5_readExpr_89
  intro e1
  have h := h.2
  obtain ⟨a8', e2, h⟩ := h
  intro a8 e3
  have x9 : a8' = a8 := Option.some.inj (e2.symm.trans e3)
  rw [x9] at h
  intro e4
  have h := h.2
  refine jaX10_advance ?_ _ _ h
  intro σ10 h
  intro e5
  have h := h.2
  refine jaX5_readTest hre ?_ _ _ _ h
  intro σ12 h
  refine ⟨?_, ?_⟩
  · have h := h.1
    intro e6
    have h := h e6
    exact jaX5_readExpr_113 hre hk48 hQ _ _ _ _ _ _ h
  · have h := h.2
    intro e7
    have h := h e7
    exact jaX5_readExpr_113 hre hk48 hQ _ _ _ _ _ _ h
set_option maxRecDepth 100000 in
set_option maxHeartbeats 4000000 in
theorem jfX5_readExpr_89 {I : kx_S → Prop} (W : fw_ I [114, 115, 116, 194, 195, 196, 1001]) {re : Nat → Int32 → kx_S → (kx_S → Prop) → Prop} (hre : ∀ {P : kx_S → Prop}, (∀ y0, I y0 → P y0) → ∀ (x0 : Nat) (x1 : Int32) (x2 : kx_S), I x2 → re x0 x1 x2 P) {k48 : Nat → Int32 → Int32 → kx_S → Prop} (hk48 : ∀ y0 y1 y2 y3, I y3 → k48 y0 y1 y2 y3) {Q : kx_S → Prop} (hQ : ∀ y0, I y0 → Q y0) : ∀ (l0 : Nat) (l1 : Int32) (l2 : Int32) (l3 : Int32) (σ : kx_S), I σ → vX5_readExpr_89 re k48 Q l0 l1 l2 l3 σ := by
  intro l0 l1 l2 l3 σ i
  unfold vX5_readExpr_89
  intro e1
  intro a8 e2
  intro e3
  refine jfX10_advance (I := I) (fw_sub W (by decide)) ?_ _ _ i
  intro σ10 iσ10
  intro e4
  refine jfX5_readTest (I := I) (fw_sub W (by decide)) hre ?_ _ _ _ iσ10
  intro σ12 iσ12
  refine ⟨?_, ?_⟩
  · intro e5
    exact jfX5_readExpr_113 (I := I) (fw_sub W (by decide)) hre hk48 hQ _ _ _ _ _ _ iσ12
  · intro e6
    exact jfX5_readExpr_113 (I := I) (fw_sub W (by decide)) hre hk48 hQ _ _ _ _ _ _ iσ12
def vX5_readExpr_48 (re : Nat → Int32 → kx_S → (kx_S → Prop) → Prop) (Q : kx_S → Prop) : Nat → Nat → Int32 → Int32 → kx_S → Prop
  | 0, _, _, _, _ => True
  | n + 1, l0, l1, l2, σ => ((500 ≤ l2 → Q σ) ∧ (¬ (500 ≤ l2) → xt σ l0 = 7 → ((¬ (xi σ 115 l0) = 0 → Q σ) ∧ ((xi σ 115 l0) = 0 → ∀ a18, xr σ 112 l0 = some a18 → xt σ a18 = 12 → vX10_isWord a18 9 σ (fun r21 σ20 => ((¬ r21 = 0 → vX5_readExpr_89 re (vX5_readExpr_48 re Q n) Q l0 l1 l2 r21 σ20) ∧ (r21 = 0 → xt σ20 l0 = 7 → ∀ a25, xr σ20 112 l0 = some a25 → xt σ20 a25 = 12 → vX10_isWord a25 10 σ20 (fun r28 σ27 => ((¬ r28 = 0 → vX5_readExpr_89 re (vX5_readExpr_48 re Q n) Q l0 l1 l2 r21 σ27) ∧ (r28 = 0 → Q σ27))))))))))
set_option maxRecDepth 100000 in
set_option maxHeartbeats 4000000 in
theorem jcX5_readExpr_48 {re re' : Nat → Int32 → kx_S → (kx_S → Prop) → Prop} (hre : ∀ {P P' P'' : kx_S → Prop}, (∀ y0, P y0 → P' y0 → P'' y0) → ∀ (x0 : Nat) (x1 : Int32) (x2 : kx_S), re x0 x1 x2 P → re' x0 x1 x2 P' → re x0 x1 x2 P'') {Q Q' Q'' : kx_S → Prop} (hQ : ∀ y0, Q y0 → Q' y0 → Q'' y0) : ∀ (n : Nat) (l0 : Nat) (l1 : Int32) (l2 : Int32) (σ : kx_S), wX5_readExpr_48 re Q n l0 l1 l2 σ → vX5_readExpr_48 re' Q' n l0 l1 l2 σ → wX5_readExpr_48 re Q'' n l0 l1 l2 σ := by
  intro n
  induction n with
  | zero => intro l0 l1 l2 σ h; exact h.elim
  | succ n ih =>
    intro l0 l1 l2 σ h v
    unfold wX5_readExpr_48 at h
    unfold vX5_readExpr_48 at v
    unfold wX5_readExpr_48
    refine ⟨?_, ?_⟩
    · have h := h.1
      have v := v.1
      intro e1
      have h := h e1
      have v := v e1
      exact hQ _ h v
    · have h := h.2
      have v := v.2
      intro e2
      have h := h e2
      have v := v e2
      refine ⟨h.1, ?_⟩
      have v := v h.1
      have h := h.2
      refine ⟨?_, ?_⟩
      · have h := h.1
        have v := v.1
        intro e4
        have h := h e4
        have v := v e4
        exact hQ _ h v
      · have h := h.2
        have v := v.2
        intro e5
        have h := h e5
        have v := v e5
        obtain ⟨a18, e6, h⟩ := h
        refine ⟨a18, e6, ?_⟩
        have v := v a18 e6
        refine ⟨h.1, ?_⟩
        have v := v h.1
        have h := h.2
        refine jcX10_isWord ?_ _ _ _ h v
        intro r21 σ20 h v
        refine ⟨?_, ?_⟩
        · have h := h.1
          have v := v.1
          intro e8
          have h := h e8
          have v := v e8
          exact jcX5_readExpr_89 hre (k48 := wX5_readExpr_48 re Q n) (k48' := vX5_readExpr_48 re' Q' n) (k48'' := wX5_readExpr_48 re Q'' n) (fun _ _ _ _ h v => ih _ _ _ _ h v) hQ _ _ _ _ _ h v
        · have h := h.2
          have v := v.2
          intro e9
          have h := h e9
          have v := v e9
          refine ⟨h.1, ?_⟩
          have v := v h.1
          have h := h.2
          obtain ⟨a25, e11, h⟩ := h
          refine ⟨a25, e11, ?_⟩
          have v := v a25 e11
          refine ⟨h.1, ?_⟩
          have v := v h.1
          have h := h.2
          refine jcX10_isWord ?_ _ _ _ h v
          intro r28 σ27 h v
          refine ⟨?_, ?_⟩
          · have h := h.1
            have v := v.1
            intro e13
            have h := h e13
            have v := v e13
            exact jcX5_readExpr_89 hre (k48 := wX5_readExpr_48 re Q n) (k48' := vX5_readExpr_48 re' Q' n) (k48'' := wX5_readExpr_48 re Q'' n) (fun _ _ _ _ h v => ih _ _ _ _ h v) hQ _ _ _ _ _ h v
          · have h := h.2
            have v := v.2
            intro e14
            have h := h e14
            have v := v e14
            exact hQ _ h v
set_option maxRecDepth 100000 in
set_option maxHeartbeats 4000000 in
theorem jaX5_readExpr_48 {re re' : Nat → Int32 → kx_S → (kx_S → Prop) → Prop} (hre : ∀ {P P' : kx_S → Prop}, (∀ y0, P y0 → P' y0) → ∀ (x0 : Nat) (x1 : Int32) (x2 : kx_S), re x0 x1 x2 P → re' x0 x1 x2 P') {Q Q' : kx_S → Prop} (hQ : ∀ y0, Q y0 → Q' y0) : ∀ (n m : Nat) (l0 : Nat) (l1 : Int32) (l2 : Int32) (σ : kx_S), wX5_readExpr_48 re Q n l0 l1 l2 σ → vX5_readExpr_48 re' Q' m l0 l1 l2 σ := by
  intro n
  induction n with
  | zero => intro m l0 l1 l2 σ h; exact h.elim
  | succ n ih =>
    intro m l0 l1 l2 σ h
    cases m with
    | zero => exact trivial
    | succ m =>
      unfold wX5_readExpr_48 at h
      unfold vX5_readExpr_48
      refine ⟨?_, ?_⟩
      · have h := h.1
        intro e1
        have h := h e1
        exact hQ _ h
      · have h := h.2
        intro e2
        have h := h e2
        intro e3
        have h := h.2
        refine ⟨?_, ?_⟩
        · have h := h.1
          intro e4
          have h := h e4
          exact hQ _ h
        · have h := h.2
          intro e5
          have h := h e5
          obtain ⟨a18', e6, h⟩ := h
          intro a18 e7
          have x9 : a18' = a18 := Option.some.inj (e6.symm.trans e7)
          rw [x9] at h
          intro e8
          have h := h.2
          refine jaX10_isWord ?_ _ _ _ h
          intro r21 σ20 h
          refine ⟨?_, ?_⟩
          · have h := h.1
            intro e9
            have h := h e9
            exact jaX5_readExpr_89 hre (k48 := wX5_readExpr_48 re Q n) (k48' := vX5_readExpr_48 re' Q' m) (fun _ _ _ _ h => ih m _ _ _ _ h) hQ _ _ _ _ _ h
          · have h := h.2
            intro e10
            have h := h e10
            intro e11
            have h := h.2
            obtain ⟨a25', e12, h⟩ := h
            intro a25 e13
            have x9 : a25' = a25 := Option.some.inj (e12.symm.trans e13)
            rw [x9] at h
            intro e14
            have h := h.2
            refine jaX10_isWord ?_ _ _ _ h
            intro r28 σ27 h
            refine ⟨?_, ?_⟩
            · have h := h.1
              intro e15
              have h := h e15
              exact jaX5_readExpr_89 hre (k48 := wX5_readExpr_48 re Q n) (k48' := vX5_readExpr_48 re' Q' m) (fun _ _ _ _ h => ih m _ _ _ _ h) hQ _ _ _ _ _ h
            · have h := h.2
              intro e16
              have h := h e16
              exact hQ _ h
set_option maxRecDepth 100000 in
set_option maxHeartbeats 4000000 in
theorem jfX5_readExpr_48 {I : kx_S → Prop} (W : fw_ I [114, 115, 116, 194, 195, 196, 1001]) {re : Nat → Int32 → kx_S → (kx_S → Prop) → Prop} (hre : ∀ {P : kx_S → Prop}, (∀ y0, I y0 → P y0) → ∀ (x0 : Nat) (x1 : Int32) (x2 : kx_S), I x2 → re x0 x1 x2 P) {Q : kx_S → Prop} (hQ : ∀ y0, I y0 → Q y0) : ∀ (n : Nat) (l0 : Nat) (l1 : Int32) (l2 : Int32) (σ : kx_S), I σ → vX5_readExpr_48 re Q n l0 l1 l2 σ := by
  intro n
  induction n with
  | zero => intro l0 l1 l2 σ i; exact trivial
  | succ n ih =>
    intro l0 l1 l2 σ i
    unfold vX5_readExpr_48
    refine ⟨?_, ?_⟩
    · intro e1
      exact hQ _ i
    · intro e2
      intro e3
      refine ⟨?_, ?_⟩
      · intro e4
        exact hQ _ i
      · intro e5
        intro a18 e6
        intro e7
        refine jfX10_isWord (I := I) (fw_sub W (by decide)) ?_ _ _ _ i
        intro r21 σ20 iσ20
        refine ⟨?_, ?_⟩
        · intro e8
          exact jfX5_readExpr_89 (I := I) (fw_sub W (by decide)) hre (k48 := vX5_readExpr_48 re Q n) (fun _ _ _ _ i => ih _ _ _ _ i) hQ _ _ _ _ _ iσ20
        · intro e9
          intro e10
          intro a25 e11
          intro e12
          refine jfX10_isWord (I := I) (fw_sub W (by decide)) ?_ _ _ _ iσ20
          intro r28 σ27 iσ27
          refine ⟨?_, ?_⟩
          · intro e13
            exact jfX5_readExpr_89 (I := I) (fw_sub W (by decide)) hre (k48 := vX5_readExpr_48 re Q n) (fun _ _ _ _ i => ih _ _ _ _ i) hQ _ _ _ _ _ iσ27
          · intro e14
            exact hQ _ iσ27
def vX5_readExpr_b (re : Nat → Int32 → kx_S → (kx_S → Prop) → Prop) (l0 : Nat) (l1 : Int32) (σ : kx_S) (Q : kx_S → Prop) : Prop := ((l1 < 8 → xt σ l0 = 7 → vX5_readTest re l0 l1 σ (fun σ32 => ∀ j, vX5_readExpr_48 re Q j l0 l1 0 σ32)) ∧ (¬ (l1 < 8) → xt σ l0 = 7 → ∀ a36, xr σ 112 l0 = some a36 → xt σ a36 = 12 → vX10_isWord a36 11 σ (fun r39 σ38 => ((r39 = 0 → xt σ38 l0 = 7 → vX5_faultOfPart l0 σ38 (fun r43 σ42 => vX5_readExpr_26 re Q l0 r43 σ42)) ∧ (¬ (r39 = 0) → vX5_readExpr_26 re Q l0 0 σ38)))))
set_option maxRecDepth 100000 in
set_option maxHeartbeats 4000000 in
theorem jcX5_readExpr_b {re re' : Nat → Int32 → kx_S → (kx_S → Prop) → Prop} (hre : ∀ {P P' P'' : kx_S → Prop}, (∀ y0, P y0 → P' y0 → P'' y0) → ∀ (x0 : Nat) (x1 : Int32) (x2 : kx_S), re x0 x1 x2 P → re' x0 x1 x2 P' → re x0 x1 x2 P'') {Q Q' Q'' : kx_S → Prop} (hQ : ∀ y0, Q y0 → Q' y0 → Q'' y0) : ∀ (l0 : Nat) (l1 : Int32) (σ : kx_S), wX5_readExpr_b re l0 l1 σ Q → vX5_readExpr_b re' l0 l1 σ Q' → wX5_readExpr_b re l0 l1 σ Q'' := by
  intro l0 l1 σ h v
  unfold wX5_readExpr_b at h
  unfold vX5_readExpr_b at v
  unfold wX5_readExpr_b
  refine ⟨?_, ?_⟩
  · have h := h.1
    have v := v.1
    intro e1
    have h := h e1
    have v := v e1
    refine ⟨h.1, ?_⟩
    have v := v h.1
    have h := h.2
    refine jcX5_readTest hre ?_ _ _ _ h v
    intro σ32 h v
    obtain ⟨j, h⟩ := h
    refine ⟨j, ?_⟩
    have v := v j
    exact jcX5_readExpr_48 hre hQ _ _ _ _ _ h v
  · have h := h.2
    have v := v.2
    intro e3
    have h := h e3
    have v := v e3
    refine ⟨h.1, ?_⟩
    have v := v h.1
    have h := h.2
    obtain ⟨a36, e5, h⟩ := h
    refine ⟨a36, e5, ?_⟩
    have v := v a36 e5
    refine ⟨h.1, ?_⟩
    have v := v h.1
    have h := h.2
    refine jcX10_isWord ?_ _ _ _ h v
    intro r39 σ38 h v
    refine ⟨?_, ?_⟩
    · have h := h.1
      have v := v.1
      intro e7
      have h := h e7
      have v := v e7
      refine ⟨h.1, ?_⟩
      have v := v h.1
      have h := h.2
      refine jcX5_faultOfPart ?_ _ _ h v
      intro r43 σ42 h v
      exact jcX5_readExpr_26 hre hQ _ _ _ h v
    · have h := h.2
      have v := v.2
      intro e9
      have h := h e9
      have v := v e9
      exact jcX5_readExpr_26 hre hQ _ _ _ h v
set_option maxRecDepth 100000 in
set_option maxHeartbeats 4000000 in
theorem jaX5_readExpr_b {re re' : Nat → Int32 → kx_S → (kx_S → Prop) → Prop} (hre : ∀ {P P' : kx_S → Prop}, (∀ y0, P y0 → P' y0) → ∀ (x0 : Nat) (x1 : Int32) (x2 : kx_S), re x0 x1 x2 P → re' x0 x1 x2 P') {Q Q' : kx_S → Prop} (hQ : ∀ y0, Q y0 → Q' y0) : ∀ (l0 : Nat) (l1 : Int32) (σ : kx_S), wX5_readExpr_b re l0 l1 σ Q → vX5_readExpr_b re' l0 l1 σ Q' := by
  intro l0 l1 σ h
  unfold wX5_readExpr_b at h
  unfold vX5_readExpr_b
  refine ⟨?_, ?_⟩
  · have h := h.1
    intro e1
    have h := h e1
    intro e2
    have h := h.2
    refine jaX5_readTest hre ?_ _ _ _ h
    intro σ32 h
    obtain ⟨j, h⟩ := h
    intro j9
    exact jaX5_readExpr_48 hre hQ _ j9 _ _ _ _ h
  · have h := h.2
    intro e3
    have h := h e3
    intro e4
    have h := h.2
    obtain ⟨a36', e5, h⟩ := h
    intro a36 e6
    have x9 : a36' = a36 := Option.some.inj (e5.symm.trans e6)
    rw [x9] at h
    intro e7
    have h := h.2
    refine jaX10_isWord ?_ _ _ _ h
    intro r39 σ38 h
    refine ⟨?_, ?_⟩
    · have h := h.1
      intro e8
      have h := h e8
      intro e9
      have h := h.2
      refine jaX5_faultOfPart ?_ _ _ h
      intro r43 σ42 h
      exact jaX5_readExpr_26 hre hQ _ _ _ h
    · have h := h.2
      intro e10
      have h := h e10
      exact jaX5_readExpr_26 hre hQ _ _ _ h
set_option maxRecDepth 100000 in
set_option maxHeartbeats 4000000 in
theorem jfX5_readExpr_b {I : kx_S → Prop} (W : fw_ I [114, 115, 116, 194, 195, 196, 1001]) {re : Nat → Int32 → kx_S → (kx_S → Prop) → Prop} (hre : ∀ {P : kx_S → Prop}, (∀ y0, I y0 → P y0) → ∀ (x0 : Nat) (x1 : Int32) (x2 : kx_S), I x2 → re x0 x1 x2 P) {Q : kx_S → Prop} (hQ : ∀ y0, I y0 → Q y0) : ∀ (l0 : Nat) (l1 : Int32) (σ : kx_S), I σ → vX5_readExpr_b re l0 l1 σ Q := by
  intro l0 l1 σ i
  unfold vX5_readExpr_b
  refine ⟨?_, ?_⟩
  · intro e1
    intro e2
    refine jfX5_readTest (I := I) (fw_sub W (by decide)) hre ?_ _ _ _ i
    intro σ32 iσ32
    intro j
    exact jfX5_readExpr_48 (I := I) (fw_sub W (by decide)) hre hQ _ _ _ _ _ iσ32
  · intro e3
    intro e4
    intro a36 e5
    intro e6
    refine jfX10_isWord (I := I) (fw_sub W (by decide)) ?_ _ _ _ i
    intro r39 σ38 iσ38
    refine ⟨?_, ?_⟩
    · intro e7
      intro e8
      refine jfX5_faultOfPart (I := I) (fw_sub W (by decide)) ?_ _ _ iσ38
      intro r43 σ42 iσ42
      exact jfX5_readExpr_26 (I := I) (fw_sub W (by decide)) hre hQ _ _ _ iσ42
    · intro e9
      exact jfX5_readExpr_26 (I := I) (fw_sub W (by decide)) hre hQ _ _ _ iσ38
def vX5_readExpr : Nat → Nat → Int32 → kx_S → (kx_S → Prop) → Prop
  | 0, _, _, _, _ => True
  | D + 1, b, a, σ, Q => vX5_readExpr_b (vX5_readExpr D) b a σ Q
theorem jcX5_readExpr : ∀ {P P' P'' : kx_S → Prop}, (∀ u, P u → P' u → P'' u) → ∀ (D : Nat) (b : Nat) (a : Int32) (σ : kx_S), wX5_readExpr D b a σ P → vX5_readExpr D b a σ P' → wX5_readExpr D b a σ P'' := by
  intro P P' P'' hP D
  induction D generalizing P P' P'' with
  | zero => intro b a σ h; exact h.elim
  | succ D ih => intro b a σ h v; exact jcX5_readExpr_b (re := wX5_readExpr D) (re' := vX5_readExpr D) (fun h9 => ih h9) hP _ _ _ h v
theorem jaX5_readExpr : ∀ {P P' : kx_S → Prop}, (∀ u, P u → P' u) → ∀ (D : Nat) (b : Nat) (a : Int32) (σ : kx_S), wX5_readExpr D b a σ P → vX5_readExpr D b a σ P' := by
  intro P P' hP D
  induction D generalizing P P' with
  | zero => intro b a σ h; exact h.elim
  | succ D ih => intro b a σ h; exact jaX5_readExpr_b (re := wX5_readExpr D) (re' := vX5_readExpr D) (fun h9 => ih h9) hP _ _ _ h
theorem jfX5_readExpr {I : kx_S → Prop} (W : fw_ I [114, 115, 116, 194, 195, 196, 1001]) : ∀ {P : kx_S → Prop}, (∀ u, I u → P u) → ∀ (D : Nat) (b : Nat) (a : Int32) (σ : kx_S), I σ → vX5_readExpr D b a σ P := by
  intro P hP D
  induction D generalizing P with
  | zero => intro b a σ i; exact trivial
  | succ D ih => intro b a σ i; exact jfX5_readExpr_b (I := I) (fw_sub W (by decide)) (re := vX5_readExpr D) (fun h9 => ih h9) hP _ _ _ i
def vX5_readRule_74 (Q : kx_S → Prop) (s0 : Int32) (s1 : Nat) (σ : kx_S) : Prop := xt σ s1 = 7 → vX5_put s1 s0 σ (fun σ1 => Q σ1)
set_option maxRecDepth 100000 in
set_option maxHeartbeats 4000000 in
theorem jcX5_readRule_74 {Q Q' Q'' : kx_S → Prop} (hQ : ∀ y0, Q y0 → Q' y0 → Q'' y0) : ∀ (s0 : Int32) (s1 : Nat) (σ : kx_S), wX5_readRule_74 Q s0 s1 σ → vX5_readRule_74 Q' s0 s1 σ → wX5_readRule_74 Q'' s0 s1 σ := by
  intro s0 s1 σ h v
  unfold wX5_readRule_74 at h
  unfold vX5_readRule_74 at v
  unfold wX5_readRule_74
  refine ⟨h.1, ?_⟩
  have v := v h.1
  have h := h.2
  refine jcX5_put ?_ _ _ _ h v
  intro σ1 h v
  exact hQ _ h v
set_option maxRecDepth 100000 in
set_option maxHeartbeats 4000000 in
theorem jaX5_readRule_74 {Q Q' : kx_S → Prop} (hQ : ∀ y0, Q y0 → Q' y0) : ∀ (s0 : Int32) (s1 : Nat) (σ : kx_S), wX5_readRule_74 Q s0 s1 σ → vX5_readRule_74 Q' s0 s1 σ := by
  intro s0 s1 σ h
  unfold wX5_readRule_74 at h
  unfold vX5_readRule_74
  intro e1
  have h := h.2
  refine jaX5_put ?_ _ _ _ h
  intro σ1 h
  exact hQ _ h
set_option maxRecDepth 100000 in
set_option maxHeartbeats 4000000 in
theorem jfX5_readRule_74 {I : kx_S → Prop} (W : fw_ I [114, 1001]) {Q : kx_S → Prop} (hQ : ∀ y0, I y0 → Q y0) : ∀ (s0 : Int32) (s1 : Nat) (σ : kx_S), I σ → vX5_readRule_74 Q s0 s1 σ := by
  intro s0 s1 σ i
  unfold vX5_readRule_74
  intro e1
  refine jfX5_put (I := I) (fw_sub W (by decide)) ?_ _ _ _ i
  intro σ1 iσ1
  exact hQ _ iσ1
def vX5_readRule_32 (Q : kx_S → Prop) (l0 : Nat) (l1 : Int32) (l2 : Int32) (σ : kx_S) : Prop := ((¬ l1 = 12 → xt σ l0 = 7 → ∀ a5, xr σ 112 l0 = some a5 → xt σ a5 = 12 → vX10_advance a5 σ (fun σ7 => xt σ7 l0 = 7 → vX5_readExpr 10 l0 0 σ7 (fun σ9 => xt σ9 l0 = 7 → vX5_pass l0 59 σ9 (fun σ11 => ((l2 = 0 → vX5_readRule_74 Q (-18) l0 σ11) ∧ (¬ (l2 = 0) → vX5_readRule_74 Q (-17) l0 σ11)))))) ∧ (l1 = 12 → xt σ l0 = 7 → vX5_fail l0 2 σ (fun σ14 => Q σ14)))
set_option maxRecDepth 100000 in
set_option maxHeartbeats 4000000 in
theorem jcX5_readRule_32 {Q Q' Q'' : kx_S → Prop} (hQ : ∀ y0, Q y0 → Q' y0 → Q'' y0) : ∀ (l0 : Nat) (l1 : Int32) (l2 : Int32) (σ : kx_S), wX5_readRule_32 Q l0 l1 l2 σ → vX5_readRule_32 Q' l0 l1 l2 σ → wX5_readRule_32 Q'' l0 l1 l2 σ := by
  intro l0 l1 l2 σ h v
  unfold wX5_readRule_32 at h
  unfold vX5_readRule_32 at v
  unfold wX5_readRule_32
  refine ⟨?_, ?_⟩
  · have h := h.1
    have v := v.1
    intro e1
    have h := h e1
    have v := v e1
    refine ⟨h.1, ?_⟩
    have v := v h.1
    have h := h.2
    obtain ⟨a5, e3, h⟩ := h
    refine ⟨a5, e3, ?_⟩
    have v := v a5 e3
    refine ⟨h.1, ?_⟩
    have v := v h.1
    have h := h.2
    refine jcX10_advance ?_ _ _ h v
    intro σ7 h v
    refine ⟨h.1, ?_⟩
    have v := v h.1
    have h := h.2
    refine jcX5_readExpr ?_ _ _ _ _ h v
    intro σ9 h v
    refine ⟨h.1, ?_⟩
    have v := v h.1
    have h := h.2
    refine jcX5_pass ?_ _ _ _ h v
    intro σ11 h v
    refine ⟨?_, ?_⟩
    · have h := h.1
      have v := v.1
      intro e7
      have h := h e7
      have v := v e7
      exact jcX5_readRule_74 hQ _ _ _ h v
    · have h := h.2
      have v := v.2
      intro e8
      have h := h e8
      have v := v e8
      exact jcX5_readRule_74 hQ _ _ _ h v
  · have h := h.2
    have v := v.2
    intro e9
    have h := h e9
    have v := v e9
    refine ⟨h.1, ?_⟩
    have v := v h.1
    have h := h.2
    refine jcX5_fail ?_ _ _ _ h v
    intro σ14 h v
    exact hQ _ h v
set_option maxRecDepth 100000 in
set_option maxHeartbeats 4000000 in
theorem jaX5_readRule_32 {Q Q' : kx_S → Prop} (hQ : ∀ y0, Q y0 → Q' y0) : ∀ (l0 : Nat) (l1 : Int32) (l2 : Int32) (σ : kx_S), wX5_readRule_32 Q l0 l1 l2 σ → vX5_readRule_32 Q' l0 l1 l2 σ := by
  intro l0 l1 l2 σ h
  unfold wX5_readRule_32 at h
  unfold vX5_readRule_32
  refine ⟨?_, ?_⟩
  · have h := h.1
    intro e1
    have h := h e1
    intro e2
    have h := h.2
    obtain ⟨a5', e3, h⟩ := h
    intro a5 e4
    have x9 : a5' = a5 := Option.some.inj (e3.symm.trans e4)
    rw [x9] at h
    intro e5
    have h := h.2
    refine jaX10_advance ?_ _ _ h
    intro σ7 h
    intro e6
    have h := h.2
    refine jaX5_readExpr ?_ _ _ _ _ h
    intro σ9 h
    intro e7
    have h := h.2
    refine jaX5_pass ?_ _ _ _ h
    intro σ11 h
    refine ⟨?_, ?_⟩
    · have h := h.1
      intro e8
      have h := h e8
      exact jaX5_readRule_74 hQ _ _ _ h
    · have h := h.2
      intro e9
      have h := h e9
      exact jaX5_readRule_74 hQ _ _ _ h
  · have h := h.2
    intro e10
    have h := h e10
    intro e11
    have h := h.2
    refine jaX5_fail ?_ _ _ _ h
    intro σ14 h
    exact hQ _ h
set_option maxRecDepth 100000 in
set_option maxHeartbeats 4000000 in
theorem jfX5_readRule_32 {I : kx_S → Prop} (W : fw_ I [114, 115, 116, 194, 195, 196, 1001]) {Q : kx_S → Prop} (hQ : ∀ y0, I y0 → Q y0) : ∀ (l0 : Nat) (l1 : Int32) (l2 : Int32) (σ : kx_S), I σ → vX5_readRule_32 Q l0 l1 l2 σ := by
  intro l0 l1 l2 σ i
  unfold vX5_readRule_32
  refine ⟨?_, ?_⟩
  · intro e1
    intro e2
    intro a5 e3
    intro e4
    refine jfX10_advance (I := I) (fw_sub W (by decide)) ?_ _ _ i
    intro σ7 iσ7
    intro e5
    refine jfX5_readExpr (I := I) (fw_sub W (by decide)) ?_ _ _ _ _ iσ7
    intro σ9 iσ9
    intro e6
    refine jfX5_pass (I := I) (fw_sub W (by decide)) ?_ _ _ _ iσ9
    intro σ11 iσ11
    refine ⟨?_, ?_⟩
    · intro e7
      exact jfX5_readRule_74 (I := I) (fw_sub W (by decide)) hQ _ _ _ iσ11
    · intro e8
      exact jfX5_readRule_74 (I := I) (fw_sub W (by decide)) hQ _ _ _ iσ11
  · intro e9
    intro e10
    refine jfX5_fail (I := I) (fw_sub W (by decide)) ?_ _ _ _ i
    intro σ14 iσ14
    exact hQ _ iσ14
def vX5_readRule (l0 : Nat) (l1 : Int32) (σ : kx_S) (Q : kx_S → Prop) : Prop := xt σ l0 = 7 → ∀ a17, xr σ 112 l0 = some a17 → xt σ a17 = 12 → vX10_isWord a17 8 σ (fun r20 σ19 => ((¬ r20 = 0 → vX5_readRule_32 Q l0 l1 r20 σ19) ∧ (r20 = 0 → xt σ19 l0 = 7 → ∀ a24, xr σ19 112 l0 = some a24 → xt σ19 a24 = 12 → vX10_isWord a24 7 σ19 (fun r27 σ26 => ((¬ r27 = 0 → vX5_readRule_32 Q l0 l1 r20 σ26) ∧ (r27 = 0 → xt σ26 l0 = 7 → vX5_fail l0 1 σ26 (fun σ30 => Q σ30)))))))
set_option maxRecDepth 100000 in
set_option maxHeartbeats 4000000 in
theorem jcX5_readRule {Q Q' Q'' : kx_S → Prop} (hQ : ∀ y0, Q y0 → Q' y0 → Q'' y0) : ∀ (l0 : Nat) (l1 : Int32) (σ : kx_S), wX5_readRule l0 l1 σ Q → vX5_readRule l0 l1 σ Q' → wX5_readRule l0 l1 σ Q'' := by
  intro l0 l1 σ h v
  unfold wX5_readRule at h
  unfold vX5_readRule at v
  unfold wX5_readRule
  refine ⟨h.1, ?_⟩
  have v := v h.1
  have h := h.2
  obtain ⟨a17, e2, h⟩ := h
  refine ⟨a17, e2, ?_⟩
  have v := v a17 e2
  refine ⟨h.1, ?_⟩
  have v := v h.1
  have h := h.2
  refine jcX10_isWord ?_ _ _ _ h v
  intro r20 σ19 h v
  refine ⟨?_, ?_⟩
  · have h := h.1
    have v := v.1
    intro e4
    have h := h e4
    have v := v e4
    exact jcX5_readRule_32 hQ _ _ _ _ h v
  · have h := h.2
    have v := v.2
    intro e5
    have h := h e5
    have v := v e5
    refine ⟨h.1, ?_⟩
    have v := v h.1
    have h := h.2
    obtain ⟨a24, e7, h⟩ := h
    refine ⟨a24, e7, ?_⟩
    have v := v a24 e7
    refine ⟨h.1, ?_⟩
    have v := v h.1
    have h := h.2
    refine jcX10_isWord ?_ _ _ _ h v
    intro r27 σ26 h v
    refine ⟨?_, ?_⟩
    · have h := h.1
      have v := v.1
      intro e9
      have h := h e9
      have v := v e9
      exact jcX5_readRule_32 hQ _ _ _ _ h v
    · have h := h.2
      have v := v.2
      intro e10
      have h := h e10
      have v := v e10
      refine ⟨h.1, ?_⟩
      have v := v h.1
      have h := h.2
      refine jcX5_fail ?_ _ _ _ h v
      intro σ30 h v
      exact hQ _ h v
set_option maxRecDepth 100000 in
set_option maxHeartbeats 4000000 in
theorem jaX5_readRule {Q Q' : kx_S → Prop} (hQ : ∀ y0, Q y0 → Q' y0) : ∀ (l0 : Nat) (l1 : Int32) (σ : kx_S), wX5_readRule l0 l1 σ Q → vX5_readRule l0 l1 σ Q' := by
  intro l0 l1 σ h
  unfold wX5_readRule at h
  unfold vX5_readRule
  intro e1
  have h := h.2
  obtain ⟨a17', e2, h⟩ := h
  intro a17 e3
  have x9 : a17' = a17 := Option.some.inj (e2.symm.trans e3)
  rw [x9] at h
  intro e4
  have h := h.2
  refine jaX10_isWord ?_ _ _ _ h
  intro r20 σ19 h
  refine ⟨?_, ?_⟩
  · have h := h.1
    intro e5
    have h := h e5
    exact jaX5_readRule_32 hQ _ _ _ _ h
  · have h := h.2
    intro e6
    have h := h e6
    intro e7
    have h := h.2
    obtain ⟨a24', e8, h⟩ := h
    intro a24 e9
    have x9 : a24' = a24 := Option.some.inj (e8.symm.trans e9)
    rw [x9] at h
    intro e10
    have h := h.2
    refine jaX10_isWord ?_ _ _ _ h
    intro r27 σ26 h
    refine ⟨?_, ?_⟩
    · have h := h.1
      intro e11
      have h := h e11
      exact jaX5_readRule_32 hQ _ _ _ _ h
    · have h := h.2
      intro e12
      have h := h e12
      intro e13
      have h := h.2
      refine jaX5_fail ?_ _ _ _ h
      intro σ30 h
      exact hQ _ h
set_option maxRecDepth 100000 in
set_option maxHeartbeats 4000000 in
theorem jfX5_readRule {I : kx_S → Prop} (W : fw_ I [114, 115, 116, 194, 195, 196, 1001]) {Q : kx_S → Prop} (hQ : ∀ y0, I y0 → Q y0) : ∀ (l0 : Nat) (l1 : Int32) (σ : kx_S), I σ → vX5_readRule l0 l1 σ Q := by
  intro l0 l1 σ i
  unfold vX5_readRule
  intro e1
  intro a17 e2
  intro e3
  refine jfX10_isWord (I := I) (fw_sub W (by decide)) ?_ _ _ _ i
  intro r20 σ19 iσ19
  refine ⟨?_, ?_⟩
  · intro e4
    exact jfX5_readRule_32 (I := I) (fw_sub W (by decide)) hQ _ _ _ _ iσ19
  · intro e5
    intro e6
    intro a24 e7
    intro e8
    refine jfX10_isWord (I := I) (fw_sub W (by decide)) ?_ _ _ _ iσ19
    intro r27 σ26 iσ26
    refine ⟨?_, ?_⟩
    · intro e9
      exact jfX5_readRule_32 (I := I) (fw_sub W (by decide)) hQ _ _ _ _ iσ26
    · intro e10
      intro e11
      refine jfX5_fail (I := I) (fw_sub W (by decide)) ?_ _ _ _ iσ26
      intro σ30 iσ30
      exact hQ _ iσ30
def vX5_readText_25 (Q : kx_S → Prop) : Nat → Nat → Int32 → kx_S → Prop
  | 0, _, _, _ => True
  | n + 1, l0, l2, σ => ((12 < l2 → Q σ) ∧ (¬ (12 < l2) → xt σ l0 = 7 → ∀ a3, xr σ 112 l0 = some a3 → xt σ a3 = 12 → (((xi σ 196 a3) = 0 → Q σ) ∧ (¬ ((xi σ 196 a3) = 0) → ((¬ (xi σ 115 l0) = 0 → Q σ) ∧ ((xi σ 115 l0) = 0 → vX5_readRule l0 l2 σ (fun σ8 => ∀ v9 : Int32, v9 = l2 + 1 → vX5_readText_25 Q n l0 v9 σ8)))))))
set_option maxRecDepth 100000 in
set_option maxHeartbeats 4000000 in
theorem jcX5_readText_25 {Q Q' Q'' : kx_S → Prop} (hQ : ∀ y0, Q y0 → Q' y0 → Q'' y0) : ∀ (n : Nat) (l0 : Nat) (l2 : Int32) (σ : kx_S), wX5_readText_25 Q n l0 l2 σ → vX5_readText_25 Q' n l0 l2 σ → wX5_readText_25 Q'' n l0 l2 σ := by
  intro n
  induction n with
  | zero => intro l0 l2 σ h; exact h.elim
  | succ n ih =>
    intro l0 l2 σ h v
    unfold wX5_readText_25 at h
    unfold vX5_readText_25 at v
    unfold wX5_readText_25
    refine ⟨?_, ?_⟩
    · have h := h.1
      have v := v.1
      intro e1
      have h := h e1
      have v := v e1
      exact hQ _ h v
    · have h := h.2
      have v := v.2
      intro e2
      have h := h e2
      have v := v e2
      refine ⟨h.1, ?_⟩
      have v := v h.1
      have h := h.2
      obtain ⟨a3, e4, h⟩ := h
      refine ⟨a3, e4, ?_⟩
      have v := v a3 e4
      refine ⟨h.1, ?_⟩
      have v := v h.1
      have h := h.2
      refine ⟨?_, ?_⟩
      · have h := h.1
        have v := v.1
        intro e6
        have h := h e6
        have v := v e6
        exact hQ _ h v
      · have h := h.2
        have v := v.2
        intro e7
        have h := h e7
        have v := v e7
        refine ⟨?_, ?_⟩
        · have h := h.1
          have v := v.1
          intro e8
          have h := h e8
          have v := v e8
          exact hQ _ h v
        · have h := h.2
          have v := v.2
          intro e9
          have h := h e9
          have v := v e9
          refine jcX5_readRule ?_ _ _ _ h v
          intro σ8 h v
          intro v9 e10
          have h := h v9 e10
          have v := v v9 e10
          exact ih _ _ _ h v
set_option maxRecDepth 100000 in
set_option maxHeartbeats 4000000 in
theorem jaX5_readText_25 {Q Q' : kx_S → Prop} (hQ : ∀ y0, Q y0 → Q' y0) : ∀ (n m : Nat) (l0 : Nat) (l2 : Int32) (σ : kx_S), wX5_readText_25 Q n l0 l2 σ → vX5_readText_25 Q' m l0 l2 σ := by
  intro n
  induction n with
  | zero => intro m l0 l2 σ h; exact h.elim
  | succ n ih =>
    intro m l0 l2 σ h
    cases m with
    | zero => exact trivial
    | succ m =>
      unfold wX5_readText_25 at h
      unfold vX5_readText_25
      refine ⟨?_, ?_⟩
      · have h := h.1
        intro e1
        have h := h e1
        exact hQ _ h
      · have h := h.2
        intro e2
        have h := h e2
        intro e3
        have h := h.2
        obtain ⟨a3', e4, h⟩ := h
        intro a3 e5
        have x9 : a3' = a3 := Option.some.inj (e4.symm.trans e5)
        rw [x9] at h
        intro e6
        have h := h.2
        refine ⟨?_, ?_⟩
        · have h := h.1
          intro e7
          have h := h e7
          exact hQ _ h
        · have h := h.2
          intro e8
          have h := h e8
          refine ⟨?_, ?_⟩
          · have h := h.1
            intro e9
            have h := h e9
            exact hQ _ h
          · have h := h.2
            intro e10
            have h := h e10
            refine jaX5_readRule ?_ _ _ _ h
            intro σ8 h
            intro v9 e11
            have h := h v9 e11
            exact ih m _ _ _ h
set_option maxRecDepth 100000 in
set_option maxHeartbeats 4000000 in
theorem jfX5_readText_25 {I : kx_S → Prop} (W : fw_ I [114, 115, 116, 194, 195, 196, 1001]) {Q : kx_S → Prop} (hQ : ∀ y0, I y0 → Q y0) : ∀ (n : Nat) (l0 : Nat) (l2 : Int32) (σ : kx_S), I σ → vX5_readText_25 Q n l0 l2 σ := by
  intro n
  induction n with
  | zero => intro l0 l2 σ i; exact trivial
  | succ n ih =>
    intro l0 l2 σ i
    unfold vX5_readText_25
    refine ⟨?_, ?_⟩
    · intro e1
      exact hQ _ i
    · intro e2
      intro e3
      intro a3 e4
      intro e5
      refine ⟨?_, ?_⟩
      · intro e6
        exact hQ _ i
      · intro e7
        refine ⟨?_, ?_⟩
        · intro e8
          exact hQ _ i
        · intro e9
          refine jfX5_readRule (I := I) (fw_sub W (by decide)) ?_ _ _ _ i
          intro σ8 iσ8
          intro v9 e10
          exact ih _ _ _ iσ8
def vX5_readText (l0 : Nat) (l1 : Int32) (σ : kx_S) (Q : kx_S → Prop) : Prop := xt σ l0 = 7 → ∀ σ11, σ11 = xsi σ 114 l0 0 → ∀ σ13, σ13 = xsi σ11 115 l0 0 → ∀ σ15, σ15 = xsi σ13 116 l0 (-1) → ∀ a17, xr σ15 112 l0 = some a17 → xt σ15 a17 = 12 → vX10_openText a17 l1 σ15 (fun σ19 => ∀ j, vX5_readText_25 Q j l0 0 σ19)
set_option maxRecDepth 100000 in
set_option maxHeartbeats 4000000 in
theorem jcX5_readText {Q Q' Q'' : kx_S → Prop} (hQ : ∀ y0, Q y0 → Q' y0 → Q'' y0) : ∀ (l0 : Nat) (l1 : Int32) (σ : kx_S), wX5_readText l0 l1 σ Q → vX5_readText l0 l1 σ Q' → wX5_readText l0 l1 σ Q'' := by
  intro l0 l1 σ h v
  unfold wX5_readText at h
  unfold vX5_readText at v
  unfold wX5_readText
  refine ⟨h.1, ?_⟩
  have v := v h.1
  have h := h.2
  intro σ11 e2
  have h := h σ11 e2
  have v := v σ11 e2
  intro σ13 e3
  have h := h σ13 e3
  have v := v σ13 e3
  intro σ15 e4
  have h := h σ15 e4
  have v := v σ15 e4
  obtain ⟨a17, e5, h⟩ := h
  refine ⟨a17, e5, ?_⟩
  have v := v a17 e5
  refine ⟨h.1, ?_⟩
  have v := v h.1
  have h := h.2
  refine jcX10_openText ?_ _ _ _ h v
  intro σ19 h v
  obtain ⟨j, h⟩ := h
  refine ⟨j, ?_⟩
  have v := v j
  exact jcX5_readText_25 hQ _ _ _ _ h v
set_option maxRecDepth 100000 in
set_option maxHeartbeats 4000000 in
theorem jaX5_readText {Q Q' : kx_S → Prop} (hQ : ∀ y0, Q y0 → Q' y0) : ∀ (l0 : Nat) (l1 : Int32) (σ : kx_S), wX5_readText l0 l1 σ Q → vX5_readText l0 l1 σ Q' := by
  intro l0 l1 σ h
  unfold wX5_readText at h
  unfold vX5_readText
  intro e1
  have h := h.2
  intro σ11 e2
  have h := h σ11 e2
  intro σ13 e3
  have h := h σ13 e3
  intro σ15 e4
  have h := h σ15 e4
  obtain ⟨a17', e5, h⟩ := h
  intro a17 e6
  have x9 : a17' = a17 := Option.some.inj (e5.symm.trans e6)
  rw [x9] at h
  intro e7
  have h := h.2
  refine jaX10_openText ?_ _ _ _ h
  intro σ19 h
  obtain ⟨j, h⟩ := h
  intro j9
  exact jaX5_readText_25 hQ _ j9 _ _ _ h
set_option maxRecDepth 100000 in
set_option maxHeartbeats 4000000 in
theorem jfX5_readText {I : kx_S → Prop} (W : fw_ I [114, 115, 116, 193, 194, 195, 196, 1001]) {Q : kx_S → Prop} (hQ : ∀ y0, I y0 → Q y0) : ∀ (l0 : Nat) (l1 : Int32) (σ : kx_S), I σ → vX5_readText l0 l1 σ Q := by
  intro l0 l1 σ i
  unfold vX5_readText
  intro e1
  intro σ11 e2
  have iσ11 : I σ11 := by rw [e2]; exact ((W _ i).1 114 (by decide)).1 _ _
  intro σ13 e3
  have iσ13 : I σ13 := by rw [e3]; exact ((W _ iσ11).1 115 (by decide)).1 _ _
  intro σ15 e4
  have iσ15 : I σ15 := by rw [e4]; exact ((W _ iσ13).1 116 (by decide)).1 _ _
  intro a17 e5
  intro e6
  refine jfX10_openText (I := I) (fw_sub W (by decide)) ?_ _ _ _ iσ15
  intro σ19 iσ19
  intro j
  exact jfX5_readText_25 (I := I) (fw_sub W (by decide)) hQ _ _ _ _ iσ19
end
section
def vX11_init (l0 : Nat) (σ : kx_S) (Q : kx_S → Prop) : Prop := xc σ < kx_N → ∀ p2, xt σ p2 = 0 → p2 ≠ xz σ → ∀ σ5, σ5 = xnew σ p2 1 → vJx4a65c_init_da8c8 p2 σ5 (fun σ7 => xt σ7 l0 = 13 → ∀ σ9, σ9 = xsr σ7 208 l0 (some p2) → xc σ9 < kx_N → ∀ p12, xt σ9 p12 = 0 → p12 ≠ xz σ9 → ∀ σ15, σ15 = xnew σ9 p12 1 → vJx4a65c_init_da8c8 p12 σ15 (fun σ17 => xt σ17 l0 = 13 → ∀ σ19, σ19 = xsr σ17 209 l0 (some p12) → xc σ19 < kx_N → ∀ p22, xt σ19 p22 = 0 → p22 ≠ xz σ19 → ∀ σ25, σ25 = xnew σ19 p22 1 → vJx4a65c_init_da8c8 p22 σ25 (fun σ27 => xt σ27 l0 = 13 → ∀ σ29, σ29 = xsr σ27 210 l0 (some p22) → xc σ29 < kx_N → ∀ p32, xt σ29 p32 = 0 → p32 ≠ xz σ29 → ∀ σ35, σ35 = xnew σ29 p32 1 → vJx4a65c_init_da8c8 p32 σ35 (fun σ37 => xt σ37 l0 = 13 → ∀ σ39, σ39 = xsr σ37 211 l0 (some p32) → xc σ39 < kx_N → ∀ p42, xt σ39 p42 = 0 → p42 ≠ xz σ39 → ∀ σ45, σ45 = xnew σ39 p42 1 → vJx4a65c_init_da8c8 p42 σ45 (fun σ47 => xt σ47 l0 = 13 → ∀ σ49, σ49 = xsr σ47 212 l0 (some p42) → xc σ49 < kx_N → ∀ p52, xt σ49 p52 = 0 → p52 ≠ xz σ49 → ∀ σ55, σ55 = xnew σ49 p52 11 → vX9_init p52 σ55 (fun σ57 => xt σ57 l0 = 13 → ∀ σ59, σ59 = xsr σ57 213 l0 (some p52) → xc σ59 < kx_N → ∀ p62, xt σ59 p62 = 0 → p62 ≠ xz σ59 → ∀ σ65, σ65 = xnew σ59 p62 7 → xt σ65 l0 = 13 → ∀ a68, xr σ65 213 l0 = some a68 → vX5_init p62 a68 σ65 (fun σ70 => xt σ70 l0 = 13 → ∀ σ72, σ72 = xsr σ70 214 l0 (some p62) → xc σ72 < kx_N → ∀ p75, xt σ72 p75 = 0 → p75 ≠ xz σ72 → ∀ σ78, σ78 = xnew σ72 p75 5 → vX3_init p75 σ78 (fun σ80 => xt σ80 l0 = 13 → ∀ σ82, σ82 = xsr σ80 215 l0 (some p75) → xc σ82 < kx_N → ¬ (16 : Int32) < 0 → (Int32.toNatClampNeg 16) ≤ 600 → ∀ p84, xt σ82 p84 = 0 → p84 ≠ xz σ82 → ∀ σ90, σ90 = xnewA σ82 p84 21 (Int32.toNatClampNeg 16) → xt σ90 l0 = 13 → ∀ σ93, σ93 = xsr σ90 216 l0 (some p84) → ∀ σ96, σ96 = xsi σ93 219 l0 (-1) → Q σ96))))))))
set_option maxRecDepth 100000 in
set_option maxHeartbeats 4000000 in
theorem jcX11_init {Q Q' Q'' : kx_S → Prop} (hQ : ∀ y0, Q y0 → Q' y0 → Q'' y0) : ∀ (l0 : Nat) (σ : kx_S), wX11_init l0 σ Q → vX11_init l0 σ Q' → wX11_init l0 σ Q'' := by
  intro l0 σ h v
  unfold wX11_init at h
  unfold vX11_init at v
  unfold wX11_init
  refine ⟨h.1, ?_⟩
  have v := v h.1
  have h := h.2
  intro p2 e2 e3
  have h := h p2 e2 e3
  have v := v p2 e2 e3
  intro σ5 e4
  have h := h σ5 e4
  have v := v σ5 e4
  refine jcJx4a65c_init_da8c8 ?_ _ _ h v
  intro σ7 h v
  refine ⟨h.1, ?_⟩
  have v := v h.1
  have h := h.2
  intro σ9 e6
  have h := h σ9 e6
  have v := v σ9 e6
  refine ⟨h.1, ?_⟩
  have v := v h.1
  have h := h.2
  intro p12 e8 e9
  have h := h p12 e8 e9
  have v := v p12 e8 e9
  intro σ15 e10
  have h := h σ15 e10
  have v := v σ15 e10
  refine jcJx4a65c_init_da8c8 ?_ _ _ h v
  intro σ17 h v
  refine ⟨h.1, ?_⟩
  have v := v h.1
  have h := h.2
  intro σ19 e12
  have h := h σ19 e12
  have v := v σ19 e12
  refine ⟨h.1, ?_⟩
  have v := v h.1
  have h := h.2
  intro p22 e14 e15
  have h := h p22 e14 e15
  have v := v p22 e14 e15
  intro σ25 e16
  have h := h σ25 e16
  have v := v σ25 e16
  refine jcJx4a65c_init_da8c8 ?_ _ _ h v
  intro σ27 h v
  refine ⟨h.1, ?_⟩
  have v := v h.1
  have h := h.2
  intro σ29 e18
  have h := h σ29 e18
  have v := v σ29 e18
  refine ⟨h.1, ?_⟩
  have v := v h.1
  have h := h.2
  intro p32 e20 e21
  have h := h p32 e20 e21
  have v := v p32 e20 e21
  intro σ35 e22
  have h := h σ35 e22
  have v := v σ35 e22
  refine jcJx4a65c_init_da8c8 ?_ _ _ h v
  intro σ37 h v
  refine ⟨h.1, ?_⟩
  have v := v h.1
  have h := h.2
  intro σ39 e24
  have h := h σ39 e24
  have v := v σ39 e24
  refine ⟨h.1, ?_⟩
  have v := v h.1
  have h := h.2
  intro p42 e26 e27
  have h := h p42 e26 e27
  have v := v p42 e26 e27
  intro σ45 e28
  have h := h σ45 e28
  have v := v σ45 e28
  refine jcJx4a65c_init_da8c8 ?_ _ _ h v
  intro σ47 h v
  refine ⟨h.1, ?_⟩
  have v := v h.1
  have h := h.2
  intro σ49 e30
  have h := h σ49 e30
  have v := v σ49 e30
  refine ⟨h.1, ?_⟩
  have v := v h.1
  have h := h.2
  intro p52 e32 e33
  have h := h p52 e32 e33
  have v := v p52 e32 e33
  intro σ55 e34
  have h := h σ55 e34
  have v := v σ55 e34
  refine jcX9_init ?_ _ _ h v
  intro σ57 h v
  refine ⟨h.1, ?_⟩
  have v := v h.1
  have h := h.2
  intro σ59 e36
  have h := h σ59 e36
  have v := v σ59 e36
  refine ⟨h.1, ?_⟩
  have v := v h.1
  have h := h.2
  intro p62 e38 e39
  have h := h p62 e38 e39
  have v := v p62 e38 e39
  intro σ65 e40
  have h := h σ65 e40
  have v := v σ65 e40
  refine ⟨h.1, ?_⟩
  have v := v h.1
  have h := h.2
  obtain ⟨a68, e42, h⟩ := h
  refine ⟨a68, e42, ?_⟩
  have v := v a68 e42
  refine jcX5_init ?_ _ _ _ h v
  intro σ70 h v
  refine ⟨h.1, ?_⟩
  have v := v h.1
  have h := h.2
  intro σ72 e44
  have h := h σ72 e44
  have v := v σ72 e44
  refine ⟨h.1, ?_⟩
  have v := v h.1
  have h := h.2
  intro p75 e46 e47
  have h := h p75 e46 e47
  have v := v p75 e46 e47
  intro σ78 e48
  have h := h σ78 e48
  have v := v σ78 e48
  refine jcX3_init ?_ _ _ h v
  intro σ80 h v
  refine ⟨h.1, ?_⟩
  have v := v h.1
  have h := h.2
  intro σ82 e50
  have h := h σ82 e50
  have v := v σ82 e50
  refine ⟨h.1, ?_⟩
  have v := v h.1
  have h := h.2
  refine ⟨h.1, ?_⟩
  have v := v h.1
  have h := h.2
  refine ⟨h.1, ?_⟩
  have v := v h.1
  have h := h.2
  intro p84 e54 e55
  have h := h p84 e54 e55
  have v := v p84 e54 e55
  intro σ90 e56
  have h := h σ90 e56
  have v := v σ90 e56
  refine ⟨h.1, ?_⟩
  have v := v h.1
  have h := h.2
  intro σ93 e58
  have h := h σ93 e58
  have v := v σ93 e58
  intro σ96 e59
  have h := h σ96 e59
  have v := v σ96 e59
  exact hQ _ h v
set_option maxRecDepth 100000 in
set_option maxHeartbeats 4000000 in
theorem jaX11_init {Q Q' : kx_S → Prop} (hQ : ∀ y0, Q y0 → Q' y0) : ∀ (l0 : Nat) (σ : kx_S), wX11_init l0 σ Q → vX11_init l0 σ Q' := by
  intro l0 σ h
  unfold wX11_init at h
  unfold vX11_init
  intro e1
  have h := h.2
  intro p2 e2 e3
  have h := h p2 e2 e3
  intro σ5 e4
  have h := h σ5 e4
  refine jaJx4a65c_init_da8c8 ?_ _ _ h
  intro σ7 h
  intro e5
  have h := h.2
  intro σ9 e6
  have h := h σ9 e6
  intro e7
  have h := h.2
  intro p12 e8 e9
  have h := h p12 e8 e9
  intro σ15 e10
  have h := h σ15 e10
  refine jaJx4a65c_init_da8c8 ?_ _ _ h
  intro σ17 h
  intro e11
  have h := h.2
  intro σ19 e12
  have h := h σ19 e12
  intro e13
  have h := h.2
  intro p22 e14 e15
  have h := h p22 e14 e15
  intro σ25 e16
  have h := h σ25 e16
  refine jaJx4a65c_init_da8c8 ?_ _ _ h
  intro σ27 h
  intro e17
  have h := h.2
  intro σ29 e18
  have h := h σ29 e18
  intro e19
  have h := h.2
  intro p32 e20 e21
  have h := h p32 e20 e21
  intro σ35 e22
  have h := h σ35 e22
  refine jaJx4a65c_init_da8c8 ?_ _ _ h
  intro σ37 h
  intro e23
  have h := h.2
  intro σ39 e24
  have h := h σ39 e24
  intro e25
  have h := h.2
  intro p42 e26 e27
  have h := h p42 e26 e27
  intro σ45 e28
  have h := h σ45 e28
  refine jaJx4a65c_init_da8c8 ?_ _ _ h
  intro σ47 h
  intro e29
  have h := h.2
  intro σ49 e30
  have h := h σ49 e30
  intro e31
  have h := h.2
  intro p52 e32 e33
  have h := h p52 e32 e33
  intro σ55 e34
  have h := h σ55 e34
  refine jaX9_init ?_ _ _ h
  intro σ57 h
  intro e35
  have h := h.2
  intro σ59 e36
  have h := h σ59 e36
  intro e37
  have h := h.2
  intro p62 e38 e39
  have h := h p62 e38 e39
  intro σ65 e40
  have h := h σ65 e40
  intro e41
  have h := h.2
  obtain ⟨a68', e42, h⟩ := h
  intro a68 e43
  have x9 : a68' = a68 := Option.some.inj (e42.symm.trans e43)
  rw [x9] at h
  refine jaX5_init ?_ _ _ _ h
  intro σ70 h
  intro e44
  have h := h.2
  intro σ72 e45
  have h := h σ72 e45
  intro e46
  have h := h.2
  intro p75 e47 e48
  have h := h p75 e47 e48
  intro σ78 e49
  have h := h σ78 e49
  refine jaX3_init ?_ _ _ h
  intro σ80 h
  intro e50
  have h := h.2
  intro σ82 e51
  have h := h σ82 e51
  intro e52
  have h := h.2
  intro e53
  have h := h.2
  intro e54
  have h := h.2
  intro p84 e55 e56
  have h := h p84 e55 e56
  intro σ90 e57
  have h := h σ90 e57
  intro e58
  have h := h.2
  intro σ93 e59
  have h := h σ93 e59
  intro σ96 e60
  have h := h σ96 e60
  exact hQ _ h
set_option maxRecDepth 100000 in
set_option maxHeartbeats 4000000 in
theorem jfX11_init {I : kx_S → Prop} (W : fw_ I [16, 17, 80, 81, 112, 113, 176, 192, 208, 209, 210, 211, 212, 213, 214, 215, 216, 219, 1101, 1105, 1107, 1111, 1112, 1220, 1221]) {Q : kx_S → Prop} (hQ : ∀ y0, I y0 → Q y0) : ∀ (l0 : Nat) (σ : kx_S), I σ → vX11_init l0 σ Q := by
  intro l0 σ i
  unfold vX11_init
  intro e1
  intro p2 e2 e3
  intro σ5 e4
  have iσ5 : I σ5 := by rw [e4]; exact (W _ i).2.2.2.2.2.2.1 1 (by decide) _ e2
  refine jfJx4a65c_init_da8c8 (I := I) (fw_sub W (by decide)) ?_ _ _ iσ5
  intro σ7 iσ7
  intro e5
  intro σ9 e6
  have iσ9 : I σ9 := by rw [e6]; exact ((W _ iσ7).1 208 (by decide)).2.1 _ _
  intro e7
  intro p12 e8 e9
  intro σ15 e10
  have iσ15 : I σ15 := by rw [e10]; exact (W _ iσ9).2.2.2.2.2.2.1 1 (by decide) _ e8
  refine jfJx4a65c_init_da8c8 (I := I) (fw_sub W (by decide)) ?_ _ _ iσ15
  intro σ17 iσ17
  intro e11
  intro σ19 e12
  have iσ19 : I σ19 := by rw [e12]; exact ((W _ iσ17).1 209 (by decide)).2.1 _ _
  intro e13
  intro p22 e14 e15
  intro σ25 e16
  have iσ25 : I σ25 := by rw [e16]; exact (W _ iσ19).2.2.2.2.2.2.1 1 (by decide) _ e14
  refine jfJx4a65c_init_da8c8 (I := I) (fw_sub W (by decide)) ?_ _ _ iσ25
  intro σ27 iσ27
  intro e17
  intro σ29 e18
  have iσ29 : I σ29 := by rw [e18]; exact ((W _ iσ27).1 210 (by decide)).2.1 _ _
  intro e19
  intro p32 e20 e21
  intro σ35 e22
  have iσ35 : I σ35 := by rw [e22]; exact (W _ iσ29).2.2.2.2.2.2.1 1 (by decide) _ e20
  refine jfJx4a65c_init_da8c8 (I := I) (fw_sub W (by decide)) ?_ _ _ iσ35
  intro σ37 iσ37
  intro e23
  intro σ39 e24
  have iσ39 : I σ39 := by rw [e24]; exact ((W _ iσ37).1 211 (by decide)).2.1 _ _
  intro e25
  intro p42 e26 e27
  intro σ45 e28
  have iσ45 : I σ45 := by rw [e28]; exact (W _ iσ39).2.2.2.2.2.2.1 1 (by decide) _ e26
  refine jfJx4a65c_init_da8c8 (I := I) (fw_sub W (by decide)) ?_ _ _ iσ45
  intro σ47 iσ47
  intro e29
  intro σ49 e30
  have iσ49 : I σ49 := by rw [e30]; exact ((W _ iσ47).1 212 (by decide)).2.1 _ _
  intro e31
  intro p52 e32 e33
  intro σ55 e34
  have iσ55 : I σ55 := by rw [e34]; exact (W _ iσ49).2.2.2.2.2.2.1 11 (by decide) _ e32
  refine jfX9_init (I := I) (fw_sub W (by decide)) ?_ _ _ iσ55
  intro σ57 iσ57
  intro e35
  intro σ59 e36
  have iσ59 : I σ59 := by rw [e36]; exact ((W _ iσ57).1 213 (by decide)).2.1 _ _
  intro e37
  intro p62 e38 e39
  intro σ65 e40
  have iσ65 : I σ65 := by rw [e40]; exact (W _ iσ59).2.2.2.2.2.2.1 7 (by decide) _ e38
  intro e41
  intro a68 e42
  refine jfX5_init (I := I) (fw_sub W (by decide)) ?_ _ _ _ iσ65
  intro σ70 iσ70
  intro e43
  intro σ72 e44
  have iσ72 : I σ72 := by rw [e44]; exact ((W _ iσ70).1 214 (by decide)).2.1 _ _
  intro e45
  intro p75 e46 e47
  intro σ78 e48
  have iσ78 : I σ78 := by rw [e48]; exact (W _ iσ72).2.2.2.2.2.2.1 5 (by decide) _ e46
  refine jfX3_init (I := I) (fw_sub W (by decide)) ?_ _ _ iσ78
  intro σ80 iσ80
  intro e49
  intro σ82 e50
  have iσ82 : I σ82 := by rw [e50]; exact ((W _ iσ80).1 215 (by decide)).2.1 _ _
  intro e51
  intro e52
  intro e53
  intro p84 e54 e55
  intro σ90 e56
  have iσ90 : I σ90 := by rw [e56]; exact (W _ iσ82).2.2.2.2.2.2.2 21 (by decide) _ e54 _
  intro e57
  intro σ93 e58
  have iσ93 : I σ93 := by rw [e58]; exact ((W _ iσ90).1 216 (by decide)).2.1 _ _
  intro σ96 e59
  have iσ96 : I σ96 := by rw [e59]; exact ((W _ iσ93).1 219 (by decide)).1 _ _
  exact hQ _ iσ96
def vX11_isWithin (l0 : Int32) (l1 : Int32) (l2 : Int32) (σ : kx_S) (Q : Int32 → kx_S → Prop) : Prop := ((l0 < l1 → Q 0 σ) ∧ (¬ (l0 < l1) → ((l2 < l0 → Q 0 σ) ∧ (¬ (l2 < l0) → Q 1 σ))))
set_option maxRecDepth 100000 in
set_option maxHeartbeats 4000000 in
theorem jcX11_isWithin {Q Q' Q'' : Int32 → kx_S → Prop} (hQ : ∀ y0 y1, Q y0 y1 → Q' y0 y1 → Q'' y0 y1) : ∀ (l0 : Int32) (l1 : Int32) (l2 : Int32) (σ : kx_S), wX11_isWithin l0 l1 l2 σ Q → vX11_isWithin l0 l1 l2 σ Q' → wX11_isWithin l0 l1 l2 σ Q'' := by
  intro l0 l1 l2 σ h v
  unfold wX11_isWithin at h
  unfold vX11_isWithin at v
  unfold wX11_isWithin
  refine ⟨?_, ?_⟩
  · have h := h.1
    have v := v.1
    intro e1
    have h := h e1
    have v := v e1
    exact hQ _ _ h v
  · have h := h.2
    have v := v.2
    intro e2
    have h := h e2
    have v := v e2
    refine ⟨?_, ?_⟩
    · have h := h.1
      have v := v.1
      intro e3
      have h := h e3
      have v := v e3
      exact hQ _ _ h v
    · have h := h.2
      have v := v.2
      intro e4
      have h := h e4
      have v := v e4
      exact hQ _ _ h v
set_option maxRecDepth 100000 in
set_option maxHeartbeats 4000000 in
theorem jaX11_isWithin {Q Q' : Int32 → kx_S → Prop} (hQ : ∀ y0 y1, Q y0 y1 → Q' y0 y1) : ∀ (l0 : Int32) (l1 : Int32) (l2 : Int32) (σ : kx_S), wX11_isWithin l0 l1 l2 σ Q → vX11_isWithin l0 l1 l2 σ Q' := by
  intro l0 l1 l2 σ h
  unfold wX11_isWithin at h
  unfold vX11_isWithin
  refine ⟨?_, ?_⟩
  · have h := h.1
    intro e1
    have h := h e1
    exact hQ _ _ h
  · have h := h.2
    intro e2
    have h := h e2
    refine ⟨?_, ?_⟩
    · have h := h.1
      intro e3
      have h := h e3
      exact hQ _ _ h
    · have h := h.2
      intro e4
      have h := h e4
      exact hQ _ _ h
set_option maxRecDepth 100000 in
set_option maxHeartbeats 4000000 in
theorem jfX11_isWithin {I : kx_S → Prop} (W : fw_ I []) {Q : Int32 → kx_S → Prop} (hQ : ∀ y0 y1, I y1 → Q y0 y1) : ∀ (l0 : Int32) (l1 : Int32) (l2 : Int32) (σ : kx_S), I σ → vX11_isWithin l0 l1 l2 σ Q := by
  intro l0 l1 l2 σ i
  unfold vX11_isWithin
  refine ⟨?_, ?_⟩
  · intro e1
    exact hQ _ _ i
  · intro e2
    refine ⟨?_, ?_⟩
    · intro e3
      exact hQ _ _ i
    · intro e4
      exact hQ _ _ i
def vX11_reachAt (l0 : Nat) (l1 : Int32) (σ : kx_S) (Q : Nat → kx_S → Prop) (QX : String → kx_S → Prop) : Prop := xt σ l0 = 13 → ∀ a2, xr σ 208 l0 = some a2 → xt σ a2 = 1 → vJx4a65c_size_8abf5 a2 σ (fun r5 σ4 => vX11_isWithin l1 0 (r5 - 1) σ4 (fun r8 σ7 => ((¬ r8 = 0 → xt σ7 l0 = 13 → ∀ a11, xr σ7 208 l0 = some a11 → xt σ7 a11 = 1 → vJx4a65c_get_915e3 a11 l1 σ7 (fun q14 σ13 => ∀ a16, q14 = some a16 → xt σ13 a16 = 10 → Q a16 σ13)) ∧ (r8 = 0 → xc σ7 < kx_N → QX pz_N (xbump σ7)))))
set_option maxRecDepth 100000 in
set_option maxHeartbeats 4000000 in
theorem jcX11_reachAt {Q Q' Q'' : Nat → kx_S → Prop} (hQ : ∀ y0 y1, Q y0 y1 → Q' y0 y1 → Q'' y0 y1) {QX QX' QX'' : String → kx_S → Prop} (hX : ∀ y0 y1, QX y0 y1 → QX' y0 y1 → QX'' y0 y1) : ∀ (l0 : Nat) (l1 : Int32) (σ : kx_S), wX11_reachAt l0 l1 σ Q QX → vX11_reachAt l0 l1 σ Q' QX' → wX11_reachAt l0 l1 σ Q'' QX'' := by
  intro l0 l1 σ h v
  unfold wX11_reachAt at h
  unfold vX11_reachAt at v
  unfold wX11_reachAt
  refine ⟨h.1, ?_⟩
  have v := v h.1
  have h := h.2
  obtain ⟨a2, e2, h⟩ := h
  refine ⟨a2, e2, ?_⟩
  have v := v a2 e2
  refine ⟨h.1, ?_⟩
  have v := v h.1
  have h := h.2
  refine jcJx4a65c_size_8abf5 ?_ _ _ h v
  intro r5 σ4 h v
  refine jcX11_isWithin ?_ _ _ _ _ h v
  intro r8 σ7 h v
  refine ⟨?_, ?_⟩
  · have h := h.1
    have v := v.1
    intro e4
    have h := h e4
    have v := v e4
    refine ⟨h.1, ?_⟩
    have v := v h.1
    have h := h.2
    obtain ⟨a11, e6, h⟩ := h
    refine ⟨a11, e6, ?_⟩
    have v := v a11 e6
    refine ⟨h.1, ?_⟩
    have v := v h.1
    have h := h.2
    refine jcJx4a65c_get_915e3 ?_ _ _ _ h v
    intro q14 σ13 h v
    obtain ⟨a16, e8, h⟩ := h
    refine ⟨a16, e8, ?_⟩
    have v := v a16 e8
    refine ⟨h.1, ?_⟩
    have v := v h.1
    have h := h.2
    exact hQ _ _ h v
  · have h := h.2
    have v := v.2
    intro e10
    have h := h e10
    have v := v e10
    refine ⟨h.1, ?_⟩
    have v := v h.1
    have h := h.2
    exact hX _ _ h v
set_option maxRecDepth 100000 in
set_option maxHeartbeats 4000000 in
theorem jaX11_reachAt {Q Q' : Nat → kx_S → Prop} (hQ : ∀ y0 y1, Q y0 y1 → Q' y0 y1) {QX QX' : String → kx_S → Prop} (hX : ∀ y0 y1, QX y0 y1 → QX' y0 y1) : ∀ (l0 : Nat) (l1 : Int32) (σ : kx_S), wX11_reachAt l0 l1 σ Q QX → vX11_reachAt l0 l1 σ Q' QX' := by
  intro l0 l1 σ h
  unfold wX11_reachAt at h
  unfold vX11_reachAt
  intro e1
  have h := h.2
  obtain ⟨a2', e2, h⟩ := h
  intro a2 e3
  have x9 : a2' = a2 := Option.some.inj (e2.symm.trans e3)
  rw [x9] at h
  intro e4
  have h := h.2
  refine jaJx4a65c_size_8abf5 ?_ _ _ h
  intro r5 σ4 h
  refine jaX11_isWithin ?_ _ _ _ _ h
  intro r8 σ7 h
  refine ⟨?_, ?_⟩
  · have h := h.1
    intro e5
    have h := h e5
    intro e6
    have h := h.2
    obtain ⟨a11', e7, h⟩ := h
    intro a11 e8
    have x9 : a11' = a11 := Option.some.inj (e7.symm.trans e8)
    rw [x9] at h
    intro e9
    have h := h.2
    refine jaJx4a65c_get_915e3 ?_ _ _ _ h
    intro q14 σ13 h
    obtain ⟨a16', e10, h⟩ := h
    intro a16 e11
    have x9 : a16' = a16 := Option.some.inj (e10.symm.trans e11)
    rw [x9] at h
    intro e12
    have h := h.2
    exact hQ _ _ h
  · have h := h.2
    intro e13
    have h := h e13
    intro e14
    have h := h.2
    exact hX _ _ h
set_option maxRecDepth 100000 in
set_option maxHeartbeats 4000000 in
theorem jfX11_reachAt {I : kx_S → Prop} (W : fw_ I [1005]) {Q : Nat → kx_S → Prop} (hQ : ∀ y0 y1, I y1 → Q y0 y1) {QX : String → kx_S → Prop} (hX : ∀ y0 y1, I y1 → QX y0 y1) : ∀ (l0 : Nat) (l1 : Int32) (σ : kx_S), I σ → vX11_reachAt l0 l1 σ Q QX := by
  intro l0 l1 σ i
  unfold vX11_reachAt
  intro e1
  intro a2 e2
  intro e3
  refine jfJx4a65c_size_8abf5 (I := I) (fw_sub W (by decide)) ?_ _ _ i
  intro r5 σ4 iσ4
  refine jfX11_isWithin (I := I) (fw_sub W (by decide)) ?_ _ _ _ _ iσ4
  intro r8 σ7 iσ7
  refine ⟨?_, ?_⟩
  · intro e4
    intro e5
    intro a11 e6
    intro e7
    refine jfJx4a65c_get_915e3 (I := I) (fw_sub W (by decide)) ?_ _ _ _ iσ7
    intro q14 σ13 iσ13
    intro a16 e8
    intro e9
    exact hQ _ _ iσ13
  · intro e10
    intro e11
    exact hX _ _ ((W _ iσ7).2.2.2.2.2.1 (by decide))
def vX11_logAt (l0 : Nat) (l1 : Int32) (σ : kx_S) (Q : Nat → kx_S → Prop) (QX : String → kx_S → Prop) : Prop := xt σ l0 = 13 → ∀ a2, xr σ 209 l0 = some a2 → xt σ a2 = 1 → vJx4a65c_size_8abf5 a2 σ (fun r5 σ4 => vX11_isWithin l1 0 (r5 - 1) σ4 (fun r8 σ7 => ((¬ r8 = 0 → xt σ7 l0 = 13 → ∀ a11, xr σ7 209 l0 = some a11 → xt σ7 a11 = 1 → vJx4a65c_get_915e3 a11 l1 σ7 (fun q14 σ13 => ∀ a16, q14 = some a16 → xt σ13 a16 = 8 → Q a16 σ13)) ∧ (r8 = 0 → xc σ7 < kx_N → QX pz_N (xbump σ7)))))
set_option maxRecDepth 100000 in
set_option maxHeartbeats 4000000 in
theorem jcX11_logAt {Q Q' Q'' : Nat → kx_S → Prop} (hQ : ∀ y0 y1, Q y0 y1 → Q' y0 y1 → Q'' y0 y1) {QX QX' QX'' : String → kx_S → Prop} (hX : ∀ y0 y1, QX y0 y1 → QX' y0 y1 → QX'' y0 y1) : ∀ (l0 : Nat) (l1 : Int32) (σ : kx_S), wX11_logAt l0 l1 σ Q QX → vX11_logAt l0 l1 σ Q' QX' → wX11_logAt l0 l1 σ Q'' QX'' := by
  intro l0 l1 σ h v
  unfold wX11_logAt at h
  unfold vX11_logAt at v
  unfold wX11_logAt
  refine ⟨h.1, ?_⟩
  have v := v h.1
  have h := h.2
  obtain ⟨a2, e2, h⟩ := h
  refine ⟨a2, e2, ?_⟩
  have v := v a2 e2
  refine ⟨h.1, ?_⟩
  have v := v h.1
  have h := h.2
  refine jcJx4a65c_size_8abf5 ?_ _ _ h v
  intro r5 σ4 h v
  refine jcX11_isWithin ?_ _ _ _ _ h v
  intro r8 σ7 h v
  refine ⟨?_, ?_⟩
  · have h := h.1
    have v := v.1
    intro e4
    have h := h e4
    have v := v e4
    refine ⟨h.1, ?_⟩
    have v := v h.1
    have h := h.2
    obtain ⟨a11, e6, h⟩ := h
    refine ⟨a11, e6, ?_⟩
    have v := v a11 e6
    refine ⟨h.1, ?_⟩
    have v := v h.1
    have h := h.2
    refine jcJx4a65c_get_915e3 ?_ _ _ _ h v
    intro q14 σ13 h v
    obtain ⟨a16, e8, h⟩ := h
    refine ⟨a16, e8, ?_⟩
    have v := v a16 e8
    refine ⟨h.1, ?_⟩
    have v := v h.1
    have h := h.2
    exact hQ _ _ h v
  · have h := h.2
    have v := v.2
    intro e10
    have h := h e10
    have v := v e10
    refine ⟨h.1, ?_⟩
    have v := v h.1
    have h := h.2
    exact hX _ _ h v
set_option maxRecDepth 100000 in
set_option maxHeartbeats 4000000 in
theorem jaX11_logAt {Q Q' : Nat → kx_S → Prop} (hQ : ∀ y0 y1, Q y0 y1 → Q' y0 y1) {QX QX' : String → kx_S → Prop} (hX : ∀ y0 y1, QX y0 y1 → QX' y0 y1) : ∀ (l0 : Nat) (l1 : Int32) (σ : kx_S), wX11_logAt l0 l1 σ Q QX → vX11_logAt l0 l1 σ Q' QX' := by
  intro l0 l1 σ h
  unfold wX11_logAt at h
  unfold vX11_logAt
  intro e1
  have h := h.2
  obtain ⟨a2', e2, h⟩ := h
  intro a2 e3
  have x9 : a2' = a2 := Option.some.inj (e2.symm.trans e3)
  rw [x9] at h
  intro e4
  have h := h.2
  refine jaJx4a65c_size_8abf5 ?_ _ _ h
  intro r5 σ4 h
  refine jaX11_isWithin ?_ _ _ _ _ h
  intro r8 σ7 h
  refine ⟨?_, ?_⟩
  · have h := h.1
    intro e5
    have h := h e5
    intro e6
    have h := h.2
    obtain ⟨a11', e7, h⟩ := h
    intro a11 e8
    have x9 : a11' = a11 := Option.some.inj (e7.symm.trans e8)
    rw [x9] at h
    intro e9
    have h := h.2
    refine jaJx4a65c_get_915e3 ?_ _ _ _ h
    intro q14 σ13 h
    obtain ⟨a16', e10, h⟩ := h
    intro a16 e11
    have x9 : a16' = a16 := Option.some.inj (e10.symm.trans e11)
    rw [x9] at h
    intro e12
    have h := h.2
    exact hQ _ _ h
  · have h := h.2
    intro e13
    have h := h e13
    intro e14
    have h := h.2
    exact hX _ _ h
set_option maxRecDepth 100000 in
set_option maxHeartbeats 4000000 in
theorem jfX11_logAt {I : kx_S → Prop} (W : fw_ I [1005]) {Q : Nat → kx_S → Prop} (hQ : ∀ y0 y1, I y1 → Q y0 y1) {QX : String → kx_S → Prop} (hX : ∀ y0 y1, I y1 → QX y0 y1) : ∀ (l0 : Nat) (l1 : Int32) (σ : kx_S), I σ → vX11_logAt l0 l1 σ Q QX := by
  intro l0 l1 σ i
  unfold vX11_logAt
  intro e1
  intro a2 e2
  intro e3
  refine jfJx4a65c_size_8abf5 (I := I) (fw_sub W (by decide)) ?_ _ _ i
  intro r5 σ4 iσ4
  refine jfX11_isWithin (I := I) (fw_sub W (by decide)) ?_ _ _ _ _ iσ4
  intro r8 σ7 iσ7
  refine ⟨?_, ?_⟩
  · intro e4
    intro e5
    intro a11 e6
    intro e7
    refine jfJx4a65c_get_915e3 (I := I) (fw_sub W (by decide)) ?_ _ _ _ iσ7
    intro q14 σ13 iσ13
    intro a16 e8
    intro e9
    exact hQ _ _ iσ13
  · intro e10
    intro e11
    exact hX _ _ ((W _ iσ7).2.2.2.2.2.1 (by decide))
def vX11_checkCell (l0 : Nat) (l1 : Int32) (σ : kx_S) (Q : kx_S → Prop) (QX : String → kx_S → Prop) : Prop := xt σ l0 = 10 → ∀ a2, xr σ 163 l0 = some a2 → xt σ a2 = 1 → vJx4a65c_size_8abf5 a2 σ (fun r5 σ4 => vX11_isWithin l1 0 (r5 - 1) σ4 (fun r8 σ7 => ((¬ r8 = 0 → Q σ7) ∧ (r8 = 0 → xc σ7 < kx_N → QX pz_N (xbump σ7)))))
set_option maxRecDepth 100000 in
set_option maxHeartbeats 4000000 in
theorem jcX11_checkCell {Q Q' Q'' : kx_S → Prop} (hQ : ∀ y0, Q y0 → Q' y0 → Q'' y0) {QX QX' QX'' : String → kx_S → Prop} (hX : ∀ y0 y1, QX y0 y1 → QX' y0 y1 → QX'' y0 y1) : ∀ (l0 : Nat) (l1 : Int32) (σ : kx_S), wX11_checkCell l0 l1 σ Q QX → vX11_checkCell l0 l1 σ Q' QX' → wX11_checkCell l0 l1 σ Q'' QX'' := by
  intro l0 l1 σ h v
  unfold wX11_checkCell at h
  unfold vX11_checkCell at v
  unfold wX11_checkCell
  refine ⟨h.1, ?_⟩
  have v := v h.1
  have h := h.2
  obtain ⟨a2, e2, h⟩ := h
  refine ⟨a2, e2, ?_⟩
  have v := v a2 e2
  refine ⟨h.1, ?_⟩
  have v := v h.1
  have h := h.2
  refine jcJx4a65c_size_8abf5 ?_ _ _ h v
  intro r5 σ4 h v
  refine jcX11_isWithin ?_ _ _ _ _ h v
  intro r8 σ7 h v
  refine ⟨?_, ?_⟩
  · have h := h.1
    have v := v.1
    intro e4
    have h := h e4
    have v := v e4
    exact hQ _ h v
  · have h := h.2
    have v := v.2
    intro e5
    have h := h e5
    have v := v e5
    refine ⟨h.1, ?_⟩
    have v := v h.1
    have h := h.2
    exact hX _ _ h v
set_option maxRecDepth 100000 in
set_option maxHeartbeats 4000000 in
theorem jaX11_checkCell {Q Q' : kx_S → Prop} (hQ : ∀ y0, Q y0 → Q' y0) {QX QX' : String → kx_S → Prop} (hX : ∀ y0 y1, QX y0 y1 → QX' y0 y1) : ∀ (l0 : Nat) (l1 : Int32) (σ : kx_S), wX11_checkCell l0 l1 σ Q QX → vX11_checkCell l0 l1 σ Q' QX' := by
  intro l0 l1 σ h
  unfold wX11_checkCell at h
  unfold vX11_checkCell
  intro e1
  have h := h.2
  obtain ⟨a2', e2, h⟩ := h
  intro a2 e3
  have x9 : a2' = a2 := Option.some.inj (e2.symm.trans e3)
  rw [x9] at h
  intro e4
  have h := h.2
  refine jaJx4a65c_size_8abf5 ?_ _ _ h
  intro r5 σ4 h
  refine jaX11_isWithin ?_ _ _ _ _ h
  intro r8 σ7 h
  refine ⟨?_, ?_⟩
  · have h := h.1
    intro e5
    have h := h e5
    exact hQ _ h
  · have h := h.2
    intro e6
    have h := h e6
    intro e7
    have h := h.2
    exact hX _ _ h
set_option maxRecDepth 100000 in
set_option maxHeartbeats 4000000 in
theorem jfX11_checkCell {I : kx_S → Prop} (W : fw_ I [1005]) {Q : kx_S → Prop} (hQ : ∀ y0, I y0 → Q y0) {QX : String → kx_S → Prop} (hX : ∀ y0 y1, I y1 → QX y0 y1) : ∀ (l0 : Nat) (l1 : Int32) (σ : kx_S), I σ → vX11_checkCell l0 l1 σ Q QX := by
  intro l0 l1 σ i
  unfold vX11_checkCell
  intro e1
  intro a2 e2
  intro e3
  refine jfJx4a65c_size_8abf5 (I := I) (fw_sub W (by decide)) ?_ _ _ i
  intro r5 σ4 iσ4
  refine jfX11_isWithin (I := I) (fw_sub W (by decide)) ?_ _ _ _ _ iσ4
  intro r8 σ7 iσ7
  refine ⟨?_, ?_⟩
  · intro e4
    exact hQ _ iσ7
  · intro e5
    intro e6
    exact hX _ _ ((W _ iσ7).2.2.2.2.2.1 (by decide))
def vX11_numberAt (l0 : Nat) (l1 : Int32) (σ : kx_S) (Q : Int32 → kx_S → Prop) : Prop := xt σ l0 = 1 → vJx4a65c_size_8abf5 l0 σ (fun r2 σ1 => vX11_isWithin l1 0 (r2 - 1) σ1 (fun r5 σ4 => ((r5 = 0 → Q (-1) σ4) ∧ (¬ (r5 = 0) → xt σ4 l0 = 1 → vJx4a65c_get_915e3 l0 l1 σ4 (fun q8 σ7 => ∀ a10, q8 = some a10 → xt σ7 a10 = 8 → Q (xi σ7 128 a10) σ7)))))
set_option maxRecDepth 100000 in
set_option maxHeartbeats 4000000 in
theorem jcX11_numberAt {Q Q' Q'' : Int32 → kx_S → Prop} (hQ : ∀ y0 y1, Q y0 y1 → Q' y0 y1 → Q'' y0 y1) : ∀ (l0 : Nat) (l1 : Int32) (σ : kx_S), wX11_numberAt l0 l1 σ Q → vX11_numberAt l0 l1 σ Q' → wX11_numberAt l0 l1 σ Q'' := by
  intro l0 l1 σ h v
  unfold wX11_numberAt at h
  unfold vX11_numberAt at v
  unfold wX11_numberAt
  refine ⟨h.1, ?_⟩
  have v := v h.1
  have h := h.2
  refine jcJx4a65c_size_8abf5 ?_ _ _ h v
  intro r2 σ1 h v
  refine jcX11_isWithin ?_ _ _ _ _ h v
  intro r5 σ4 h v
  refine ⟨?_, ?_⟩
  · have h := h.1
    have v := v.1
    intro e2
    have h := h e2
    have v := v e2
    exact hQ _ _ h v
  · have h := h.2
    have v := v.2
    intro e3
    have h := h e3
    have v := v e3
    refine ⟨h.1, ?_⟩
    have v := v h.1
    have h := h.2
    refine jcJx4a65c_get_915e3 ?_ _ _ _ h v
    intro q8 σ7 h v
    obtain ⟨a10, e5, h⟩ := h
    refine ⟨a10, e5, ?_⟩
    have v := v a10 e5
    refine ⟨h.1, ?_⟩
    have v := v h.1
    have h := h.2
    exact hQ _ _ h v
set_option maxRecDepth 100000 in
set_option maxHeartbeats 4000000 in
theorem jaX11_numberAt {Q Q' : Int32 → kx_S → Prop} (hQ : ∀ y0 y1, Q y0 y1 → Q' y0 y1) : ∀ (l0 : Nat) (l1 : Int32) (σ : kx_S), wX11_numberAt l0 l1 σ Q → vX11_numberAt l0 l1 σ Q' := by
  intro l0 l1 σ h
  unfold wX11_numberAt at h
  unfold vX11_numberAt
  intro e1
  have h := h.2
  refine jaJx4a65c_size_8abf5 ?_ _ _ h
  intro r2 σ1 h
  refine jaX11_isWithin ?_ _ _ _ _ h
  intro r5 σ4 h
  refine ⟨?_, ?_⟩
  · have h := h.1
    intro e2
    have h := h e2
    exact hQ _ _ h
  · have h := h.2
    intro e3
    have h := h e3
    intro e4
    have h := h.2
    refine jaJx4a65c_get_915e3 ?_ _ _ _ h
    intro q8 σ7 h
    obtain ⟨a10', e5, h⟩ := h
    intro a10 e6
    have x9 : a10' = a10 := Option.some.inj (e5.symm.trans e6)
    rw [x9] at h
    intro e7
    have h := h.2
    exact hQ _ _ h
set_option maxRecDepth 100000 in
set_option maxHeartbeats 4000000 in
theorem jfX11_numberAt {I : kx_S → Prop} (W : fw_ I []) {Q : Int32 → kx_S → Prop} (hQ : ∀ y0 y1, I y1 → Q y0 y1) : ∀ (l0 : Nat) (l1 : Int32) (σ : kx_S), I σ → vX11_numberAt l0 l1 σ Q := by
  intro l0 l1 σ i
  unfold vX11_numberAt
  intro e1
  refine jfJx4a65c_size_8abf5 (I := I) (fw_sub W (by decide)) ?_ _ _ i
  intro r2 σ1 iσ1
  refine jfX11_isWithin (I := I) (fw_sub W (by decide)) ?_ _ _ _ _ iσ1
  intro r5 σ4 iσ4
  refine ⟨?_, ?_⟩
  · intro e2
    exact hQ _ _ iσ4
  · intro e3
    intro e4
    refine jfJx4a65c_get_915e3 (I := I) (fw_sub W (by decide)) ?_ _ _ _ iσ4
    intro q8 σ7 iσ7
    intro a10 e5
    intro e6
    exact hQ _ _ iσ7
def vX11_reach_148 (Q : Int32 → kx_S → Prop) (l0 : Nat) (l6 : Nat) (σ : kx_S) : Prop := xt σ l0 = 13 → ∀ a2, xr σ 208 l0 = some a2 → xt σ a2 = 1 → vJx4a65c_add_9ea2d a2 l6 σ (fun r5 σ4 => xt σ4 l6 = 10 → Q (xi σ4 160 l6) σ4)
set_option maxRecDepth 100000 in
set_option maxHeartbeats 4000000 in
theorem jcX11_reach_148 {Q Q' Q'' : Int32 → kx_S → Prop} (hQ : ∀ y0 y1, Q y0 y1 → Q' y0 y1 → Q'' y0 y1) : ∀ (l0 : Nat) (l6 : Nat) (σ : kx_S), wX11_reach_148 Q l0 l6 σ → vX11_reach_148 Q' l0 l6 σ → wX11_reach_148 Q'' l0 l6 σ := by
  intro l0 l6 σ h v
  unfold wX11_reach_148 at h
  unfold vX11_reach_148 at v
  unfold wX11_reach_148
  refine ⟨h.1, ?_⟩
  have v := v h.1
  have h := h.2
  obtain ⟨a2, e2, h⟩ := h
  refine ⟨a2, e2, ?_⟩
  have v := v a2 e2
  refine ⟨h.1, ?_⟩
  have v := v h.1
  have h := h.2
  refine jcJx4a65c_add_9ea2d ?_ _ _ _ h v
  intro r5 σ4 h v
  refine ⟨h.1, ?_⟩
  have v := v h.1
  have h := h.2
  exact hQ _ _ h v
set_option maxRecDepth 100000 in
set_option maxHeartbeats 4000000 in
theorem jaX11_reach_148 {Q Q' : Int32 → kx_S → Prop} (hQ : ∀ y0 y1, Q y0 y1 → Q' y0 y1) : ∀ (l0 : Nat) (l6 : Nat) (σ : kx_S), wX11_reach_148 Q l0 l6 σ → vX11_reach_148 Q' l0 l6 σ := by
  intro l0 l6 σ h
  unfold wX11_reach_148 at h
  unfold vX11_reach_148
  intro e1
  have h := h.2
  obtain ⟨a2', e2, h⟩ := h
  intro a2 e3
  have x9 : a2' = a2 := Option.some.inj (e2.symm.trans e3)
  rw [x9] at h
  intro e4
  have h := h.2
  refine jaJx4a65c_add_9ea2d ?_ _ _ _ h
  intro r5 σ4 h
  intro e5
  have h := h.2
  exact hQ _ _ h
set_option maxRecDepth 100000 in
set_option maxHeartbeats 4000000 in
theorem jfX11_reach_148 {I : kx_S → Prop} (W : fw_ I [16, 17, 18, 1003, 1222]) {Q : Int32 → kx_S → Prop} (hQ : ∀ y0 y1, I y1 → Q y0 y1) : ∀ (l0 : Nat) (l6 : Nat) (σ : kx_S), I σ → vX11_reach_148 Q l0 l6 σ := by
  intro l0 l6 σ i
  unfold vX11_reach_148
  intro e1
  intro a2 e2
  intro e3
  refine jfJx4a65c_add_9ea2d (I := I) (fw_sub W (by decide)) ?_ _ _ _ i
  intro r5 σ4 iσ4
  intro e4
  exact hQ _ _ iσ4
def vX11_reach_117 (k148 : Nat → Nat → kx_S → Prop) (Q : Int32 → kx_S → Prop) : Nat → Nat → Int32 → Int32 → Nat → Int32 → kx_S → Prop
  | 0, _, _, _, _, _, _ => True
  | n + 1, l0, l2, l3, l6, l7, σ => ((l2 ≤ l7 → k148 l0 l6 σ) ∧ (¬ (l2 ≤ l7) → xt σ l6 = 10 → ∀ a10, xr σ 163 l6 = some a10 → xc σ < kx_N → ∀ p13, xt σ p13 = 0 → p13 ≠ xz σ → ∀ σ16, σ16 = xnew σ p13 3 → vX1_init p13 l3 σ16 (fun σ18 => xt σ18 a10 = 1 → vJx4a65c_add_9ea2d a10 p13 σ18 (fun r20 σ19 => ∀ v22 : Int32, v22 = l7 + 1 → vX11_reach_117 k148 Q n l0 l2 l3 l6 v22 σ19))))
set_option maxRecDepth 100000 in
set_option maxHeartbeats 4000000 in
theorem jcX11_reach_117 {k148 k148' k148'' : Nat → Nat → kx_S → Prop} (hk148 : ∀ y0 y1 y2, k148 y0 y1 y2 → k148' y0 y1 y2 → k148'' y0 y1 y2) {Q Q' Q'' : Int32 → kx_S → Prop} (hQ : ∀ y0 y1, Q y0 y1 → Q' y0 y1 → Q'' y0 y1) : ∀ (n : Nat) (l0 : Nat) (l2 : Int32) (l3 : Int32) (l6 : Nat) (l7 : Int32) (σ : kx_S), wX11_reach_117 k148 Q n l0 l2 l3 l6 l7 σ → vX11_reach_117 k148' Q' n l0 l2 l3 l6 l7 σ → wX11_reach_117 k148'' Q'' n l0 l2 l3 l6 l7 σ := by
  intro n
  induction n with
  | zero => intro l0 l2 l3 l6 l7 σ h; exact h.elim
  | succ n ih =>
    intro l0 l2 l3 l6 l7 σ h v
    unfold wX11_reach_117 at h
    unfold vX11_reach_117 at v
    unfold wX11_reach_117
    refine ⟨?_, ?_⟩
    · have h := h.1
      have v := v.1
      intro e1
      have h := h e1
      have v := v e1
      exact hk148 _ _ _ h v
    · have h := h.2
      have v := v.2
      intro e2
      have h := h e2
      have v := v e2
      refine ⟨h.1, ?_⟩
      have v := v h.1
      have h := h.2
      obtain ⟨a10, e4, h⟩ := h
      refine ⟨a10, e4, ?_⟩
      have v := v a10 e4
      refine ⟨h.1, ?_⟩
      have v := v h.1
      have h := h.2
      intro p13 e6 e7
      have h := h p13 e6 e7
      have v := v p13 e6 e7
      intro σ16 e8
      have h := h σ16 e8
      have v := v σ16 e8
      refine jcX1_init ?_ _ _ _ h v
      intro σ18 h v
      refine ⟨h.1, ?_⟩
      have v := v h.1
      have h := h.2
      refine jcJx4a65c_add_9ea2d ?_ _ _ _ h v
      intro r20 σ19 h v
      intro v22 e10
      have h := h v22 e10
      have v := v v22 e10
      exact ih _ _ _ _ _ _ h v
set_option maxRecDepth 100000 in
set_option maxHeartbeats 4000000 in
theorem jaX11_reach_117 {k148 k148' : Nat → Nat → kx_S → Prop} (hk148 : ∀ y0 y1 y2, k148 y0 y1 y2 → k148' y0 y1 y2) {Q Q' : Int32 → kx_S → Prop} (hQ : ∀ y0 y1, Q y0 y1 → Q' y0 y1) : ∀ (n m : Nat) (l0 : Nat) (l2 : Int32) (l3 : Int32) (l6 : Nat) (l7 : Int32) (σ : kx_S), wX11_reach_117 k148 Q n l0 l2 l3 l6 l7 σ → vX11_reach_117 k148' Q' m l0 l2 l3 l6 l7 σ := by
  intro n
  induction n with
  | zero => intro m l0 l2 l3 l6 l7 σ h; exact h.elim
  | succ n ih =>
    intro m l0 l2 l3 l6 l7 σ h
    cases m with
    | zero => exact trivial
    | succ m =>
      unfold wX11_reach_117 at h
      unfold vX11_reach_117
      refine ⟨?_, ?_⟩
      · have h := h.1
        intro e1
        have h := h e1
        exact hk148 _ _ _ h
      · have h := h.2
        intro e2
        have h := h e2
        intro e3
        have h := h.2
        obtain ⟨a10', e4, h⟩ := h
        intro a10 e5
        have x9 : a10' = a10 := Option.some.inj (e4.symm.trans e5)
        rw [x9] at h
        intro e6
        have h := h.2
        intro p13 e7 e8
        have h := h p13 e7 e8
        intro σ16 e9
        have h := h σ16 e9
        refine jaX1_init ?_ _ _ _ h
        intro σ18 h
        intro e10
        have h := h.2
        refine jaJx4a65c_add_9ea2d ?_ _ _ _ h
        intro r20 σ19 h
        intro v22 e11
        have h := h v22 e11
        exact ih m _ _ _ _ _ _ h
set_option maxRecDepth 100000 in
set_option maxHeartbeats 4000000 in
theorem jfX11_reach_117 {I : kx_S → Prop} (W : fw_ I [16, 17, 18, 48, 49, 1003, 1101, 1103, 1222]) {k148 : Nat → Nat → kx_S → Prop} (hk148 : ∀ y0 y1 y2, I y2 → k148 y0 y1 y2) {Q : Int32 → kx_S → Prop} (hQ : ∀ y0 y1, I y1 → Q y0 y1) : ∀ (n : Nat) (l0 : Nat) (l2 : Int32) (l3 : Int32) (l6 : Nat) (l7 : Int32) (σ : kx_S), I σ → vX11_reach_117 k148 Q n l0 l2 l3 l6 l7 σ := by
  intro n
  induction n with
  | zero => intro l0 l2 l3 l6 l7 σ i; exact trivial
  | succ n ih =>
    intro l0 l2 l3 l6 l7 σ i
    unfold vX11_reach_117
    refine ⟨?_, ?_⟩
    · intro e1
      exact hk148 _ _ _ i
    · intro e2
      intro e3
      intro a10 e4
      intro e5
      intro p13 e6 e7
      intro σ16 e8
      have iσ16 : I σ16 := by rw [e8]; exact (W _ i).2.2.2.2.2.2.1 3 (by decide) _ e6
      refine jfX1_init (I := I) (fw_sub W (by decide)) ?_ _ _ _ iσ16
      intro σ18 iσ18
      intro e9
      refine jfJx4a65c_add_9ea2d (I := I) (fw_sub W (by decide)) ?_ _ _ _ iσ18
      intro r20 σ19 iσ19
      intro v22 e10
      exact ih _ _ _ _ _ _ iσ19
def vX11_reach_90 (Q : Int32 → kx_S → Prop) (l0 : Nat) (l2 : Int32) (l3 : Int32) (l4 : Int32) (s0 : Option Nat) (σ : kx_S) : Prop := xc σ < kx_N → ∀ p24, xt σ p24 = 0 → p24 ≠ xz σ → ∀ σ27, σ27 = xnew σ p24 10 → xt σ27 l0 = 13 → ∀ a30, xr σ27 208 l0 = some a30 → xt σ27 a30 = 1 → vJx4a65c_size_8abf5 a30 σ27 (fun r33 σ32 => vX8_init p24 r33 s0 l4 σ32 (fun σ35 => ∀ j, vX11_reach_117 (vX11_reach_148 Q) Q j l0 l2 l3 p24 0 σ35))
set_option maxRecDepth 100000 in
set_option maxHeartbeats 4000000 in
theorem jcX11_reach_90 {Q Q' Q'' : Int32 → kx_S → Prop} (hQ : ∀ y0 y1, Q y0 y1 → Q' y0 y1 → Q'' y0 y1) : ∀ (l0 : Nat) (l2 : Int32) (l3 : Int32) (l4 : Int32) (s0 : Option Nat) (σ : kx_S), wX11_reach_90 Q l0 l2 l3 l4 s0 σ → vX11_reach_90 Q' l0 l2 l3 l4 s0 σ → wX11_reach_90 Q'' l0 l2 l3 l4 s0 σ := by
  intro l0 l2 l3 l4 s0 σ h v
  unfold wX11_reach_90 at h
  unfold vX11_reach_90 at v
  unfold wX11_reach_90
  refine ⟨h.1, ?_⟩
  have v := v h.1
  have h := h.2
  intro p24 e2 e3
  have h := h p24 e2 e3
  have v := v p24 e2 e3
  intro σ27 e4
  have h := h σ27 e4
  have v := v σ27 e4
  refine ⟨h.1, ?_⟩
  have v := v h.1
  have h := h.2
  obtain ⟨a30, e6, h⟩ := h
  refine ⟨a30, e6, ?_⟩
  have v := v a30 e6
  refine ⟨h.1, ?_⟩
  have v := v h.1
  have h := h.2
  refine jcJx4a65c_size_8abf5 ?_ _ _ h v
  intro r33 σ32 h v
  refine jcX8_init ?_ _ _ _ _ _ h v
  intro σ35 h v
  obtain ⟨j, h⟩ := h
  refine ⟨j, ?_⟩
  have v := v j
  exact jcX11_reach_117 (k148 := wX11_reach_148 Q) (k148' := vX11_reach_148 Q') (k148'' := wX11_reach_148 Q'') (fun _ _ _ h v => jcX11_reach_148 hQ _ _ _ h v) hQ _ _ _ _ _ _ _ h v
set_option maxRecDepth 100000 in
set_option maxHeartbeats 4000000 in
theorem jaX11_reach_90 {Q Q' : Int32 → kx_S → Prop} (hQ : ∀ y0 y1, Q y0 y1 → Q' y0 y1) : ∀ (l0 : Nat) (l2 : Int32) (l3 : Int32) (l4 : Int32) (s0 : Option Nat) (σ : kx_S), wX11_reach_90 Q l0 l2 l3 l4 s0 σ → vX11_reach_90 Q' l0 l2 l3 l4 s0 σ := by
  intro l0 l2 l3 l4 s0 σ h
  unfold wX11_reach_90 at h
  unfold vX11_reach_90
  intro e1
  have h := h.2
  intro p24 e2 e3
  have h := h p24 e2 e3
  intro σ27 e4
  have h := h σ27 e4
  intro e5
  have h := h.2
  obtain ⟨a30', e6, h⟩ := h
  intro a30 e7
  have x9 : a30' = a30 := Option.some.inj (e6.symm.trans e7)
  rw [x9] at h
  intro e8
  have h := h.2
  refine jaJx4a65c_size_8abf5 ?_ _ _ h
  intro r33 σ32 h
  refine jaX8_init ?_ _ _ _ _ _ h
  intro σ35 h
  obtain ⟨j, h⟩ := h
  intro j9
  exact jaX11_reach_117 (k148 := wX11_reach_148 Q) (k148' := vX11_reach_148 Q') (fun _ _ _ h => jaX11_reach_148 hQ _ _ _ h) hQ _ j9 _ _ _ _ _ _ h
set_option maxRecDepth 100000 in
set_option maxHeartbeats 4000000 in
theorem jfX11_reach_90 {I : kx_S → Prop} (W : fw_ I [16, 17, 18, 48, 49, 160, 161, 162, 163, 1003, 1101, 1103, 1110, 1222]) {Q : Int32 → kx_S → Prop} (hQ : ∀ y0 y1, I y1 → Q y0 y1) : ∀ (l0 : Nat) (l2 : Int32) (l3 : Int32) (l4 : Int32) (s0 : Option Nat) (σ : kx_S), I σ → vX11_reach_90 Q l0 l2 l3 l4 s0 σ := by
  intro l0 l2 l3 l4 s0 σ i
  unfold vX11_reach_90
  intro e1
  intro p24 e2 e3
  intro σ27 e4
  have iσ27 : I σ27 := by rw [e4]; exact (W _ i).2.2.2.2.2.2.1 10 (by decide) _ e2
  intro e5
  intro a30 e6
  intro e7
  refine jfJx4a65c_size_8abf5 (I := I) (fw_sub W (by decide)) ?_ _ _ iσ27
  intro r33 σ32 iσ32
  refine jfX8_init (I := I) (fw_sub W (by decide)) ?_ _ _ _ _ _ iσ32
  intro σ35 iσ35
  intro j
  exact jfX11_reach_117 (I := I) (fw_sub W (by decide)) (k148 := vX11_reach_148 Q) (fun _ _ _ i => jfX11_reach_148 (I := I) (fw_sub W (by decide)) hQ _ _ _ i) hQ _ _ _ _ _ _ _ iσ35
def vX11_reach (l0 : Nat) (l1 : Int32) (l2 : Int32) (l3 : Int32) (l4 : Int32) (σ : kx_S) (Q : Int32 → kx_S → Prop) : Prop := xt σ l0 = 13 → ∀ a38, xr σ 208 l0 = some a38 → xt σ a38 = 1 → vJx4a65c_size_8abf5 a38 σ (fun r41 σ40 => ((10 ≤ r41 → Q (-1) σ40) ∧ (¬ (10 ≤ r41) → xt σ40 l0 = 13 → ∀ a45, xr σ40 208 l0 = some a45 → xt σ40 a45 = 1 → vJx4a65c_size_8abf5 a45 σ40 (fun r48 σ47 => vX11_isWithin l1 (-1) (r48 - 1) σ47 (fun r51 σ50 => ((¬ r51 = 0 → vX11_isWithin l2 1 12 σ50 (fun r54 σ53 => ((r54 = 0 → Q (-1) σ53) ∧ (¬ (r54 = 0) → vX11_isWithin l3 1 20 σ53 (fun r57 σ56 => ((r57 = 0 → Q (-1) σ56) ∧ (¬ (r57 = 0) → vX11_isWithin l4 0 1000 σ56 (fun r60 σ59 => ((¬ r60 = 0 → ((l1 < 0 → vX11_reach_90 Q l0 l2 l3 l4 none σ59) ∧ (¬ (l1 < 0) → xt σ59 l0 = 13 → ∀ a64, xr σ59 208 l0 = some a64 → xt σ59 a64 = 1 → vJx4a65c_get_915e3 a64 l1 σ59 (fun q67 σ66 => ∀ a69, q67 = some a69 → xt σ66 a69 = 10 → vX11_reach_90 Q l0 l2 l3 l4 (some a69) σ66)))) ∧ (r60 = 0 → Q (-1) σ59)))))))))) ∧ (r51 = 0 → Q (-1) σ50)))))))
set_option maxRecDepth 100000 in
set_option maxHeartbeats 4000000 in
theorem jcX11_reach {Q Q' Q'' : Int32 → kx_S → Prop} (hQ : ∀ y0 y1, Q y0 y1 → Q' y0 y1 → Q'' y0 y1) : ∀ (l0 : Nat) (l1 : Int32) (l2 : Int32) (l3 : Int32) (l4 : Int32) (σ : kx_S), wX11_reach l0 l1 l2 l3 l4 σ Q → vX11_reach l0 l1 l2 l3 l4 σ Q' → wX11_reach l0 l1 l2 l3 l4 σ Q'' := by
  intro l0 l1 l2 l3 l4 σ h v
  unfold wX11_reach at h
  unfold vX11_reach at v
  unfold wX11_reach
  refine ⟨h.1, ?_⟩
  have v := v h.1
  have h := h.2
  obtain ⟨a38, e2, h⟩ := h
  refine ⟨a38, e2, ?_⟩
  have v := v a38 e2
  refine ⟨h.1, ?_⟩
  have v := v h.1
  have h := h.2
  refine jcJx4a65c_size_8abf5 ?_ _ _ h v
  intro r41 σ40 h v
  refine ⟨?_, ?_⟩
  · have h := h.1
    have v := v.1
    intro e4
    have h := h e4
    have v := v e4
    exact hQ _ _ h v
  · have h := h.2
    have v := v.2
    intro e5
    have h := h e5
    have v := v e5
    refine ⟨h.1, ?_⟩
    have v := v h.1
    have h := h.2
    obtain ⟨a45, e7, h⟩ := h
    refine ⟨a45, e7, ?_⟩
    have v := v a45 e7
    refine ⟨h.1, ?_⟩
    have v := v h.1
    have h := h.2
    refine jcJx4a65c_size_8abf5 ?_ _ _ h v
    intro r48 σ47 h v
    refine jcX11_isWithin ?_ _ _ _ _ h v
    intro r51 σ50 h v
    refine ⟨?_, ?_⟩
    · have h := h.1
      have v := v.1
      intro e9
      have h := h e9
      have v := v e9
      refine jcX11_isWithin ?_ _ _ _ _ h v
      intro r54 σ53 h v
      refine ⟨?_, ?_⟩
      · have h := h.1
        have v := v.1
        intro e10
        have h := h e10
        have v := v e10
        exact hQ _ _ h v
      · have h := h.2
        have v := v.2
        intro e11
        have h := h e11
        have v := v e11
        refine jcX11_isWithin ?_ _ _ _ _ h v
        intro r57 σ56 h v
        refine ⟨?_, ?_⟩
        · have h := h.1
          have v := v.1
          intro e12
          have h := h e12
          have v := v e12
          exact hQ _ _ h v
        · have h := h.2
          have v := v.2
          intro e13
          have h := h e13
          have v := v e13
          refine jcX11_isWithin ?_ _ _ _ _ h v
          intro r60 σ59 h v
          refine ⟨?_, ?_⟩
          · have h := h.1
            have v := v.1
            intro e14
            have h := h e14
            have v := v e14
            refine ⟨?_, ?_⟩
            · have h := h.1
              have v := v.1
              intro e15
              have h := h e15
              have v := v e15
              exact jcX11_reach_90 hQ _ _ _ _ _ _ h v
            · have h := h.2
              have v := v.2
              intro e16
              have h := h e16
              have v := v e16
              refine ⟨h.1, ?_⟩
              have v := v h.1
              have h := h.2
              obtain ⟨a64, e18, h⟩ := h
              refine ⟨a64, e18, ?_⟩
              have v := v a64 e18
              refine ⟨h.1, ?_⟩
              have v := v h.1
              have h := h.2
              refine jcJx4a65c_get_915e3 ?_ _ _ _ h v
              intro q67 σ66 h v
              obtain ⟨a69, e20, h⟩ := h
              refine ⟨a69, e20, ?_⟩
              have v := v a69 e20
              refine ⟨h.1, ?_⟩
              have v := v h.1
              have h := h.2
              exact jcX11_reach_90 hQ _ _ _ _ _ _ h v
          · have h := h.2
            have v := v.2
            intro e22
            have h := h e22
            have v := v e22
            exact hQ _ _ h v
    · have h := h.2
      have v := v.2
      intro e23
      have h := h e23
      have v := v e23
      exact hQ _ _ h v
set_option maxRecDepth 100000 in
set_option maxHeartbeats 4000000 in
theorem jaX11_reach {Q Q' : Int32 → kx_S → Prop} (hQ : ∀ y0 y1, Q y0 y1 → Q' y0 y1) : ∀ (l0 : Nat) (l1 : Int32) (l2 : Int32) (l3 : Int32) (l4 : Int32) (σ : kx_S), wX11_reach l0 l1 l2 l3 l4 σ Q → vX11_reach l0 l1 l2 l3 l4 σ Q' := by
  intro l0 l1 l2 l3 l4 σ h
  unfold wX11_reach at h
  unfold vX11_reach
  intro e1
  have h := h.2
  obtain ⟨a38', e2, h⟩ := h
  intro a38 e3
  have x9 : a38' = a38 := Option.some.inj (e2.symm.trans e3)
  rw [x9] at h
  intro e4
  have h := h.2
  refine jaJx4a65c_size_8abf5 ?_ _ _ h
  intro r41 σ40 h
  refine ⟨?_, ?_⟩
  · have h := h.1
    intro e5
    have h := h e5
    exact hQ _ _ h
  · have h := h.2
    intro e6
    have h := h e6
    intro e7
    have h := h.2
    obtain ⟨a45', e8, h⟩ := h
    intro a45 e9
    have x9 : a45' = a45 := Option.some.inj (e8.symm.trans e9)
    rw [x9] at h
    intro e10
    have h := h.2
    refine jaJx4a65c_size_8abf5 ?_ _ _ h
    intro r48 σ47 h
    refine jaX11_isWithin ?_ _ _ _ _ h
    intro r51 σ50 h
    refine ⟨?_, ?_⟩
    · have h := h.1
      intro e11
      have h := h e11
      refine jaX11_isWithin ?_ _ _ _ _ h
      intro r54 σ53 h
      refine ⟨?_, ?_⟩
      · have h := h.1
        intro e12
        have h := h e12
        exact hQ _ _ h
      · have h := h.2
        intro e13
        have h := h e13
        refine jaX11_isWithin ?_ _ _ _ _ h
        intro r57 σ56 h
        refine ⟨?_, ?_⟩
        · have h := h.1
          intro e14
          have h := h e14
          exact hQ _ _ h
        · have h := h.2
          intro e15
          have h := h e15
          refine jaX11_isWithin ?_ _ _ _ _ h
          intro r60 σ59 h
          refine ⟨?_, ?_⟩
          · have h := h.1
            intro e16
            have h := h e16
            refine ⟨?_, ?_⟩
            · have h := h.1
              intro e17
              have h := h e17
              exact jaX11_reach_90 hQ _ _ _ _ _ _ h
            · have h := h.2
              intro e18
              have h := h e18
              intro e19
              have h := h.2
              obtain ⟨a64', e20, h⟩ := h
              intro a64 e21
              have x9 : a64' = a64 := Option.some.inj (e20.symm.trans e21)
              rw [x9] at h
              intro e22
              have h := h.2
              refine jaJx4a65c_get_915e3 ?_ _ _ _ h
              intro q67 σ66 h
              obtain ⟨a69', e23, h⟩ := h
              intro a69 e24
              have x9 : a69' = a69 := Option.some.inj (e23.symm.trans e24)
              rw [x9] at h
              intro e25
              have h := h.2
              exact jaX11_reach_90 hQ _ _ _ _ _ _ h
          · have h := h.2
            intro e26
            have h := h e26
            exact hQ _ _ h
    · have h := h.2
      intro e27
      have h := h e27
      exact hQ _ _ h
set_option maxRecDepth 100000 in
set_option maxHeartbeats 4000000 in
theorem jfX11_reach {I : kx_S → Prop} (W : fw_ I [16, 17, 18, 48, 49, 160, 161, 162, 163, 1003, 1101, 1103, 1110, 1222]) {Q : Int32 → kx_S → Prop} (hQ : ∀ y0 y1, I y1 → Q y0 y1) : ∀ (l0 : Nat) (l1 : Int32) (l2 : Int32) (l3 : Int32) (l4 : Int32) (σ : kx_S), I σ → vX11_reach l0 l1 l2 l3 l4 σ Q := by
  intro l0 l1 l2 l3 l4 σ i
  unfold vX11_reach
  intro e1
  intro a38 e2
  intro e3
  refine jfJx4a65c_size_8abf5 (I := I) (fw_sub W (by decide)) ?_ _ _ i
  intro r41 σ40 iσ40
  refine ⟨?_, ?_⟩
  · intro e4
    exact hQ _ _ iσ40
  · intro e5
    intro e6
    intro a45 e7
    intro e8
    refine jfJx4a65c_size_8abf5 (I := I) (fw_sub W (by decide)) ?_ _ _ iσ40
    intro r48 σ47 iσ47
    refine jfX11_isWithin (I := I) (fw_sub W (by decide)) ?_ _ _ _ _ iσ47
    intro r51 σ50 iσ50
    refine ⟨?_, ?_⟩
    · intro e9
      refine jfX11_isWithin (I := I) (fw_sub W (by decide)) ?_ _ _ _ _ iσ50
      intro r54 σ53 iσ53
      refine ⟨?_, ?_⟩
      · intro e10
        exact hQ _ _ iσ53
      · intro e11
        refine jfX11_isWithin (I := I) (fw_sub W (by decide)) ?_ _ _ _ _ iσ53
        intro r57 σ56 iσ56
        refine ⟨?_, ?_⟩
        · intro e12
          exact hQ _ _ iσ56
        · intro e13
          refine jfX11_isWithin (I := I) (fw_sub W (by decide)) ?_ _ _ _ _ iσ56
          intro r60 σ59 iσ59
          refine ⟨?_, ?_⟩
          · intro e14
            refine ⟨?_, ?_⟩
            · intro e15
              exact jfX11_reach_90 (I := I) (fw_sub W (by decide)) hQ _ _ _ _ _ _ iσ59
            · intro e16
              intro e17
              intro a64 e18
              intro e19
              refine jfJx4a65c_get_915e3 (I := I) (fw_sub W (by decide)) ?_ _ _ _ iσ59
              intro q67 σ66 iσ66
              intro a69 e20
              intro e21
              exact jfX11_reach_90 (I := I) (fw_sub W (by decide)) hQ _ _ _ _ _ _ iσ66
          · intro e22
            exact hQ _ _ iσ59
    · intro e23
      exact hQ _ _ iσ50
def vX11_dam (l0 : Nat) (l1 : Int32) (l2 : Int32) (σ : kx_S) (Q : Int32 → kx_S → Prop) (QX : String → kx_S → Prop) : Prop := xt σ l0 = 13 → vX11_reachAt l0 l1 σ (fun b2 σ1 => vX11_isWithin l2 0 100000 σ1 (fun r5 σ4 => ((¬ r5 = 0 → xt σ4 b2 = 10 → ∀ σ8, σ8 = xsi σ4 165 b2 1 → ∀ σ10, σ10 = xsi σ8 166 b2 l2 → Q 1 σ10) ∧ (r5 = 0 → Q 0 σ4)))) QX
set_option maxRecDepth 100000 in
set_option maxHeartbeats 4000000 in
theorem jcX11_dam {Q Q' Q'' : Int32 → kx_S → Prop} (hQ : ∀ y0 y1, Q y0 y1 → Q' y0 y1 → Q'' y0 y1) {QX QX' QX'' : String → kx_S → Prop} (hX : ∀ y0 y1, QX y0 y1 → QX' y0 y1 → QX'' y0 y1) : ∀ (l0 : Nat) (l1 : Int32) (l2 : Int32) (σ : kx_S), wX11_dam l0 l1 l2 σ Q QX → vX11_dam l0 l1 l2 σ Q' QX' → wX11_dam l0 l1 l2 σ Q'' QX'' := by
  intro l0 l1 l2 σ h v
  unfold wX11_dam at h
  unfold vX11_dam at v
  unfold wX11_dam
  refine ⟨h.1, ?_⟩
  have v := v h.1
  have h := h.2
  refine jcX11_reachAt ?_ hX _ _ _ h v
  intro b2 σ1 h v
  refine jcX11_isWithin ?_ _ _ _ _ h v
  intro r5 σ4 h v
  refine ⟨?_, ?_⟩
  · have h := h.1
    have v := v.1
    intro e2
    have h := h e2
    have v := v e2
    refine ⟨h.1, ?_⟩
    have v := v h.1
    have h := h.2
    intro σ8 e4
    have h := h σ8 e4
    have v := v σ8 e4
    intro σ10 e5
    have h := h σ10 e5
    have v := v σ10 e5
    exact hQ _ _ h v
  · have h := h.2
    have v := v.2
    intro e6
    have h := h e6
    have v := v e6
    exact hQ _ _ h v
set_option maxRecDepth 100000 in
set_option maxHeartbeats 4000000 in
theorem jaX11_dam {Q Q' : Int32 → kx_S → Prop} (hQ : ∀ y0 y1, Q y0 y1 → Q' y0 y1) {QX QX' : String → kx_S → Prop} (hX : ∀ y0 y1, QX y0 y1 → QX' y0 y1) : ∀ (l0 : Nat) (l1 : Int32) (l2 : Int32) (σ : kx_S), wX11_dam l0 l1 l2 σ Q QX → vX11_dam l0 l1 l2 σ Q' QX' := by
  intro l0 l1 l2 σ h
  unfold wX11_dam at h
  unfold vX11_dam
  intro e1
  have h := h.2
  refine jaX11_reachAt ?_ hX _ _ _ h
  intro b2 σ1 h
  refine jaX11_isWithin ?_ _ _ _ _ h
  intro r5 σ4 h
  refine ⟨?_, ?_⟩
  · have h := h.1
    intro e2
    have h := h e2
    intro e3
    have h := h.2
    intro σ8 e4
    have h := h σ8 e4
    intro σ10 e5
    have h := h σ10 e5
    exact hQ _ _ h
  · have h := h.2
    intro e6
    have h := h e6
    exact hQ _ _ h
set_option maxRecDepth 100000 in
set_option maxHeartbeats 4000000 in
theorem jfX11_dam {I : kx_S → Prop} (W : fw_ I [165, 166, 1005]) {Q : Int32 → kx_S → Prop} (hQ : ∀ y0 y1, I y1 → Q y0 y1) {QX : String → kx_S → Prop} (hX : ∀ y0 y1, I y1 → QX y0 y1) : ∀ (l0 : Nat) (l1 : Int32) (l2 : Int32) (σ : kx_S), I σ → vX11_dam l0 l1 l2 σ Q QX := by
  intro l0 l1 l2 σ i
  unfold vX11_dam
  intro e1
  refine jfX11_reachAt (I := I) (fw_sub W (by decide)) ?_ hX _ _ _ i
  intro b2 σ1 iσ1
  refine jfX11_isWithin (I := I) (fw_sub W (by decide)) ?_ _ _ _ _ iσ1
  intro r5 σ4 iσ4
  refine ⟨?_, ?_⟩
  · intro e2
    intro e3
    intro σ8 e4
    have iσ8 : I σ8 := by rw [e4]; exact ((W _ iσ4).1 165 (by decide)).1 _ _
    intro σ10 e5
    have iσ10 : I σ10 := by rw [e5]; exact ((W _ iσ8).1 166 (by decide)).1 _ _
    exact hQ _ _ iσ10
  · intro e6
    exact hQ _ _ iσ4
def vX11_gate (l0 : Nat) (l1 : Int32) (l2 : Int32) (σ : kx_S) (Q : Int32 → kx_S → Prop) (QX : String → kx_S → Prop) : Prop := xt σ l0 = 13 → vX11_reachAt l0 l1 σ (fun b2 σ1 => xt σ1 b2 = 10 → (((xi σ1 165 b2) = 0 → Q (-1) σ1) ∧ (¬ ((xi σ1 165 b2) = 0) → vX11_isWithin l2 0 1000 σ1 (fun r7 σ6 => ((¬ r7 = 0 → xt σ6 b2 = 10 → ∀ v10, v10 = xi σ6 168 b2 → ∀ σ11, σ11 = xsi σ6 168 b2 l2 → Q v10 σ11) ∧ (r7 = 0 → Q (-1) σ6)))))) QX
set_option maxRecDepth 100000 in
set_option maxHeartbeats 4000000 in
theorem jcX11_gate {Q Q' Q'' : Int32 → kx_S → Prop} (hQ : ∀ y0 y1, Q y0 y1 → Q' y0 y1 → Q'' y0 y1) {QX QX' QX'' : String → kx_S → Prop} (hX : ∀ y0 y1, QX y0 y1 → QX' y0 y1 → QX'' y0 y1) : ∀ (l0 : Nat) (l1 : Int32) (l2 : Int32) (σ : kx_S), wX11_gate l0 l1 l2 σ Q QX → vX11_gate l0 l1 l2 σ Q' QX' → wX11_gate l0 l1 l2 σ Q'' QX'' := by
  intro l0 l1 l2 σ h v
  unfold wX11_gate at h
  unfold vX11_gate at v
  unfold wX11_gate
  refine ⟨h.1, ?_⟩
  have v := v h.1
  have h := h.2
  refine jcX11_reachAt ?_ hX _ _ _ h v
  intro b2 σ1 h v
  refine ⟨h.1, ?_⟩
  have v := v h.1
  have h := h.2
  refine ⟨?_, ?_⟩
  · have h := h.1
    have v := v.1
    intro e3
    have h := h e3
    have v := v e3
    exact hQ _ _ h v
  · have h := h.2
    have v := v.2
    intro e4
    have h := h e4
    have v := v e4
    refine jcX11_isWithin ?_ _ _ _ _ h v
    intro r7 σ6 h v
    refine ⟨?_, ?_⟩
    · have h := h.1
      have v := v.1
      intro e5
      have h := h e5
      have v := v e5
      refine ⟨h.1, ?_⟩
      have v := v h.1
      have h := h.2
      intro v10 e7
      have h := h v10 e7
      have v := v v10 e7
      intro σ11 e8
      have h := h σ11 e8
      have v := v σ11 e8
      exact hQ _ _ h v
    · have h := h.2
      have v := v.2
      intro e9
      have h := h e9
      have v := v e9
      exact hQ _ _ h v
set_option maxRecDepth 100000 in
set_option maxHeartbeats 4000000 in
theorem jaX11_gate {Q Q' : Int32 → kx_S → Prop} (hQ : ∀ y0 y1, Q y0 y1 → Q' y0 y1) {QX QX' : String → kx_S → Prop} (hX : ∀ y0 y1, QX y0 y1 → QX' y0 y1) : ∀ (l0 : Nat) (l1 : Int32) (l2 : Int32) (σ : kx_S), wX11_gate l0 l1 l2 σ Q QX → vX11_gate l0 l1 l2 σ Q' QX' := by
  intro l0 l1 l2 σ h
  unfold wX11_gate at h
  unfold vX11_gate
  intro e1
  have h := h.2
  refine jaX11_reachAt ?_ hX _ _ _ h
  intro b2 σ1 h
  intro e2
  have h := h.2
  refine ⟨?_, ?_⟩
  · have h := h.1
    intro e3
    have h := h e3
    exact hQ _ _ h
  · have h := h.2
    intro e4
    have h := h e4
    refine jaX11_isWithin ?_ _ _ _ _ h
    intro r7 σ6 h
    refine ⟨?_, ?_⟩
    · have h := h.1
      intro e5
      have h := h e5
      intro e6
      have h := h.2
      intro v10 e7
      have h := h v10 e7
      intro σ11 e8
      have h := h σ11 e8
      exact hQ _ _ h
    · have h := h.2
      intro e9
      have h := h e9
      exact hQ _ _ h
set_option maxRecDepth 100000 in
set_option maxHeartbeats 4000000 in
theorem jfX11_gate {I : kx_S → Prop} (W : fw_ I [168, 1005]) {Q : Int32 → kx_S → Prop} (hQ : ∀ y0 y1, I y1 → Q y0 y1) {QX : String → kx_S → Prop} (hX : ∀ y0 y1, I y1 → QX y0 y1) : ∀ (l0 : Nat) (l1 : Int32) (l2 : Int32) (σ : kx_S), I σ → vX11_gate l0 l1 l2 σ Q QX := by
  intro l0 l1 l2 σ i
  unfold vX11_gate
  intro e1
  refine jfX11_reachAt (I := I) (fw_sub W (by decide)) ?_ hX _ _ _ i
  intro b2 σ1 iσ1
  intro e2
  refine ⟨?_, ?_⟩
  · intro e3
    exact hQ _ _ iσ1
  · intro e4
    refine jfX11_isWithin (I := I) (fw_sub W (by decide)) ?_ _ _ _ _ iσ1
    intro r7 σ6 iσ6
    refine ⟨?_, ?_⟩
    · intro e5
      intro e6
      intro v10 e7
      intro σ11 e8
      have iσ11 : I σ11 := by rw [e8]; exact ((W _ iσ6).1 168 (by decide)).1 _ _
      exact hQ _ _ iσ11
    · intro e9
      exact hQ _ _ iσ6
end

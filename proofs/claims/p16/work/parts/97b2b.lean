def vX2_rest (l0 : Nat) (l1 : Int32) (σ : kx_S) (Q : kx_S → Prop) : Prop := xt σ l0 = 4 → ∀ σ2, σ2 = xsi σ 65 l0 (l1 + 2) → Q σ2
set_option maxRecDepth 100000 in
set_option maxHeartbeats 4000000 in
theorem jcX2_rest {Q Q' Q'' : kx_S → Prop} (hQ : ∀ y0, Q y0 → Q' y0 → Q'' y0) : ∀ (l0 : Nat) (l1 : Int32) (σ : kx_S), wX2_rest l0 l1 σ Q → vX2_rest l0 l1 σ Q' → wX2_rest l0 l1 σ Q'' := by
  intro l0 l1 σ h v
  unfold wX2_rest at h
  unfold vX2_rest at v
  unfold wX2_rest
  refine ⟨h.1, ?_⟩
  have v := v h.1
  have h := h.2
  intro σ2 e2
  have h := h σ2 e2
  have v := v σ2 e2
  exact hQ _ h v
set_option maxRecDepth 100000 in
set_option maxHeartbeats 4000000 in
theorem jaX2_rest {Q Q' : kx_S → Prop} (hQ : ∀ y0, Q y0 → Q' y0) : ∀ (l0 : Nat) (l1 : Int32) (σ : kx_S), wX2_rest l0 l1 σ Q → vX2_rest l0 l1 σ Q' := by
  intro l0 l1 σ h
  unfold wX2_rest at h
  unfold vX2_rest
  intro e1
  have h := h.2
  intro σ2 e2
  have h := h σ2 e2
  exact hQ _ h
set_option maxRecDepth 100000 in
set_option maxHeartbeats 4000000 in
theorem jfX2_rest {I : kx_S → Prop} (W : fw_ I [65]) {Q : kx_S → Prop} (hQ : ∀ y0, I y0 → Q y0) : ∀ (l0 : Nat) (l1 : Int32) (σ : kx_S), I σ → vX2_rest l0 l1 σ Q := by
  intro l0 l1 σ i
  unfold vX2_rest
  intro e1
  intro σ2 e2
  have iσ2 : I σ2 := by rw [e2]; exact ((W _ i).1 65 (by decide)).1 _ _
  exact hQ _ iσ2
def vX3_init (l0 : Nat) (σ : kx_S) (Q : kx_S → Prop) : Prop := xc σ < kx_N → ¬ (33 : Int32) < 0 → (Int32.toNatClampNeg 33) ≤ 600 → ∀ p1, xt σ p1 = 0 → p1 ≠ xz σ → ∀ σ7, σ7 = xnewA σ p1 20 (Int32.toNatClampNeg 33) → xt σ7 l0 = 5 → ∀ σ10, σ10 = xsr σ7 80 l0 (some p1) → xc σ10 < kx_N → ¬ (7 : Int32) < 0 → (Int32.toNatClampNeg 7) ≤ 600 → ∀ p13, xt σ10 p13 = 0 → p13 ≠ xz σ10 → ∀ σ19, σ19 = xnewA σ10 p13 20 (Int32.toNatClampNeg 7) → xt σ19 l0 = 5 → ∀ σ22, σ22 = xsr σ19 81 l0 (some p13) → Q σ22
set_option maxRecDepth 100000 in
set_option maxHeartbeats 4000000 in
theorem jcX3_init {Q Q' Q'' : kx_S → Prop} (hQ : ∀ y0, Q y0 → Q' y0 → Q'' y0) : ∀ (l0 : Nat) (σ : kx_S), wX3_init l0 σ Q → vX3_init l0 σ Q' → wX3_init l0 σ Q'' := by
  intro l0 σ h v
  unfold wX3_init at h
  unfold vX3_init at v
  unfold wX3_init
  refine ⟨h.1, ?_⟩
  have v := v h.1
  have h := h.2
  refine ⟨h.1, ?_⟩
  have v := v h.1
  have h := h.2
  refine ⟨h.1, ?_⟩
  have v := v h.1
  have h := h.2
  intro p1 e4 e5
  have h := h p1 e4 e5
  have v := v p1 e4 e5
  intro σ7 e6
  have h := h σ7 e6
  have v := v σ7 e6
  refine ⟨h.1, ?_⟩
  have v := v h.1
  have h := h.2
  intro σ10 e8
  have h := h σ10 e8
  have v := v σ10 e8
  refine ⟨h.1, ?_⟩
  have v := v h.1
  have h := h.2
  refine ⟨h.1, ?_⟩
  have v := v h.1
  have h := h.2
  refine ⟨h.1, ?_⟩
  have v := v h.1
  have h := h.2
  intro p13 e12 e13
  have h := h p13 e12 e13
  have v := v p13 e12 e13
  intro σ19 e14
  have h := h σ19 e14
  have v := v σ19 e14
  refine ⟨h.1, ?_⟩
  have v := v h.1
  have h := h.2
  intro σ22 e16
  have h := h σ22 e16
  have v := v σ22 e16
  exact hQ _ h v
set_option maxRecDepth 100000 in
set_option maxHeartbeats 4000000 in
theorem jaX3_init {Q Q' : kx_S → Prop} (hQ : ∀ y0, Q y0 → Q' y0) : ∀ (l0 : Nat) (σ : kx_S), wX3_init l0 σ Q → vX3_init l0 σ Q' := by
  intro l0 σ h
  unfold wX3_init at h
  unfold vX3_init
  intro e1
  have h := h.2
  intro e2
  have h := h.2
  intro e3
  have h := h.2
  intro p1 e4 e5
  have h := h p1 e4 e5
  intro σ7 e6
  have h := h σ7 e6
  intro e7
  have h := h.2
  intro σ10 e8
  have h := h σ10 e8
  intro e9
  have h := h.2
  intro e10
  have h := h.2
  intro e11
  have h := h.2
  intro p13 e12 e13
  have h := h p13 e12 e13
  intro σ19 e14
  have h := h σ19 e14
  intro e15
  have h := h.2
  intro σ22 e16
  have h := h σ22 e16
  exact hQ _ h
set_option maxRecDepth 100000 in
set_option maxHeartbeats 4000000 in
theorem jfX3_init {I : kx_S → Prop} (W : fw_ I [80, 81, 1220]) {Q : kx_S → Prop} (hQ : ∀ y0, I y0 → Q y0) : ∀ (l0 : Nat) (σ : kx_S), I σ → vX3_init l0 σ Q := by
  intro l0 σ i
  unfold vX3_init
  intro e1
  intro e2
  intro e3
  intro p1 e4 e5
  intro σ7 e6
  have iσ7 : I σ7 := by rw [e6]; exact (W _ i).2.2.2.2.2.2.2 20 (by decide) _ e4 _
  intro e7
  intro σ10 e8
  have iσ10 : I σ10 := by rw [e8]; exact ((W _ iσ7).1 80 (by decide)).2.1 _ _
  intro e9
  intro e10
  intro e11
  intro p13 e12 e13
  intro σ19 e14
  have iσ19 : I σ19 := by rw [e14]; exact (W _ iσ10).2.2.2.2.2.2.2 20 (by decide) _ e12 _
  intro e15
  intro σ22 e16
  have iσ22 : I σ22 := by rw [e16]; exact ((W _ iσ19).1 81 (by decide)).2.1 _ _
  exact hQ _ iσ22
def vX3_name (l0 : Nat) (l1 : Int32) (l2 : Int32) (σ : kx_S) (Q : kx_S → Prop) : Prop := xt σ l0 = 5 → ∀ a2, xr σ 81 l0 = some a2 → xt σ a2 = 20 → vp_in ((-1) - l1) (xn σ a2) → ∀ σ6, σ6 = xsai σ a2 ((-1) - l1).toNatClampNeg l2 → Q σ6
set_option maxRecDepth 100000 in
set_option maxHeartbeats 4000000 in
theorem jcX3_name {Q Q' Q'' : kx_S → Prop} (hQ : ∀ y0, Q y0 → Q' y0 → Q'' y0) : ∀ (l0 : Nat) (l1 : Int32) (l2 : Int32) (σ : kx_S), wX3_name l0 l1 l2 σ Q → vX3_name l0 l1 l2 σ Q' → wX3_name l0 l1 l2 σ Q'' := by
  intro l0 l1 l2 σ h v
  unfold wX3_name at h
  unfold vX3_name at v
  unfold wX3_name
  refine ⟨h.1, ?_⟩
  have v := v h.1
  have h := h.2
  obtain ⟨a2, e2, h⟩ := h
  refine ⟨a2, e2, ?_⟩
  have v := v a2 e2
  refine ⟨h.1, ?_⟩
  have v := v h.1
  have h := h.2
  refine ⟨h.1, ?_⟩
  have v := v h.1
  have h := h.2
  intro σ6 e5
  have h := h σ6 e5
  have v := v σ6 e5
  exact hQ _ h v
set_option maxRecDepth 100000 in
set_option maxHeartbeats 4000000 in
theorem jaX3_name {Q Q' : kx_S → Prop} (hQ : ∀ y0, Q y0 → Q' y0) : ∀ (l0 : Nat) (l1 : Int32) (l2 : Int32) (σ : kx_S), wX3_name l0 l1 l2 σ Q → vX3_name l0 l1 l2 σ Q' := by
  intro l0 l1 l2 σ h
  unfold wX3_name at h
  unfold vX3_name
  intro e1
  have h := h.2
  obtain ⟨a2', e2, h⟩ := h
  intro a2 e3
  have x9 : a2' = a2 := Option.some.inj (e2.symm.trans e3)
  rw [x9] at h
  intro e4
  have h := h.2
  intro e5
  have h := h.2
  intro σ6 e6
  have h := h σ6 e6
  exact hQ _ h
set_option maxRecDepth 100000 in
set_option maxHeartbeats 4000000 in
theorem jfX3_name {I : kx_S → Prop} (W : fw_ I [1001]) {Q : kx_S → Prop} (hQ : ∀ y0, I y0 → Q y0) : ∀ (l0 : Nat) (l1 : Int32) (l2 : Int32) (σ : kx_S), I σ → vX3_name l0 l1 l2 σ Q := by
  intro l0 l1 l2 σ i
  unfold vX3_name
  intro e1
  intro a2 e2
  intro e3
  intro e4
  intro σ6 e5
  have iσ6 : I σ6 := by rw [e5]; exact (W _ i).2.1 (by decide) _ _ _
  exact hQ _ iσ6
def vX3_push (l0 : Nat) (l1 : Int32) (σ : kx_S) (Q : kx_S → Prop) : Prop := xt σ l0 = 5 → ∀ a2, xr σ 80 l0 = some a2 → xt σ a2 = 20 → (((nI (xn σ a2)) ≤ (xi σ 82 l0) → Q σ) ∧ (¬ ((nI (xn σ a2)) ≤ (xi σ 82 l0)) → ∀ a6, xr σ 80 l0 = some a6 → xt σ a6 = 20 → vp_in (xi σ 82 l0) (xn σ a6) → ∀ σ10, σ10 = xsai σ a6 (xi σ 82 l0).toNatClampNeg l1 → ∀ σ14, σ14 = xsi σ10 82 l0 ((xi σ10 82 l0) + 1) → Q σ14))
set_option maxRecDepth 100000 in
set_option maxHeartbeats 4000000 in
theorem jcX3_push {Q Q' Q'' : kx_S → Prop} (hQ : ∀ y0, Q y0 → Q' y0 → Q'' y0) : ∀ (l0 : Nat) (l1 : Int32) (σ : kx_S), wX3_push l0 l1 σ Q → vX3_push l0 l1 σ Q' → wX3_push l0 l1 σ Q'' := by
  intro l0 l1 σ h v
  unfold wX3_push at h
  unfold vX3_push at v
  unfold wX3_push
  refine ⟨h.1, ?_⟩
  have v := v h.1
  have h := h.2
  obtain ⟨a2, e2, h⟩ := h
  refine ⟨a2, e2, ?_⟩
  have v := v a2 e2
  refine ⟨h.1, ?_⟩
  have v := v h.1
  have h := h.2
  refine ⟨?_, ?_⟩
  · have h := h.1
    have v := v.1
    intro e4
    have h := h e4
    have v := v e4
    exact hQ _ h v
  · have h := h.2
    have v := v.2
    intro e5
    have h := h e5
    have v := v e5
    obtain ⟨a6, e6, h⟩ := h
    refine ⟨a6, e6, ?_⟩
    have v := v a6 e6
    refine ⟨h.1, ?_⟩
    have v := v h.1
    have h := h.2
    refine ⟨h.1, ?_⟩
    have v := v h.1
    have h := h.2
    intro σ10 e9
    have h := h σ10 e9
    have v := v σ10 e9
    intro σ14 e10
    have h := h σ14 e10
    have v := v σ14 e10
    exact hQ _ h v
set_option maxRecDepth 100000 in
set_option maxHeartbeats 4000000 in
theorem jaX3_push {Q Q' : kx_S → Prop} (hQ : ∀ y0, Q y0 → Q' y0) : ∀ (l0 : Nat) (l1 : Int32) (σ : kx_S), wX3_push l0 l1 σ Q → vX3_push l0 l1 σ Q' := by
  intro l0 l1 σ h
  unfold wX3_push at h
  unfold vX3_push
  intro e1
  have h := h.2
  obtain ⟨a2', e2, h⟩ := h
  intro a2 e3
  have x9 : a2' = a2 := Option.some.inj (e2.symm.trans e3)
  rw [x9] at h
  intro e4
  have h := h.2
  refine ⟨?_, ?_⟩
  · have h := h.1
    intro e5
    have h := h e5
    exact hQ _ h
  · have h := h.2
    intro e6
    have h := h e6
    obtain ⟨a6', e7, h⟩ := h
    intro a6 e8
    have x9 : a6' = a6 := Option.some.inj (e7.symm.trans e8)
    rw [x9] at h
    intro e9
    have h := h.2
    intro e10
    have h := h.2
    intro σ10 e11
    have h := h σ10 e11
    intro σ14 e12
    have h := h σ14 e12
    exact hQ _ h
set_option maxRecDepth 100000 in
set_option maxHeartbeats 4000000 in
theorem jfX3_push {I : kx_S → Prop} (W : fw_ I [82, 1001]) {Q : kx_S → Prop} (hQ : ∀ y0, I y0 → Q y0) : ∀ (l0 : Nat) (l1 : Int32) (σ : kx_S), I σ → vX3_push l0 l1 σ Q := by
  intro l0 l1 σ i
  unfold vX3_push
  intro e1
  intro a2 e2
  intro e3
  refine ⟨?_, ?_⟩
  · intro e4
    exact hQ _ i
  · intro e5
    intro a6 e6
    intro e7
    intro e8
    intro σ10 e9
    have iσ10 : I σ10 := by rw [e9]; exact (W _ i).2.1 (by decide) _ _ _
    intro σ14 e10
    have iσ14 : I σ14 := by rw [e10]; exact ((W _ iσ10).1 82 (by decide)).1 _ _
    exact hQ _ iσ14
def vX3_pop (l0 : Nat) (σ : kx_S) (Q : Int32 → kx_S → Prop) : Prop := xt σ l0 = 5 → ((¬ (xi σ 82 l0) = 0 → ∀ σ3, σ3 = xsi σ 82 l0 ((xi σ 82 l0) - 1) → ∀ a5, xr σ3 80 l0 = some a5 → xt σ3 a5 = 20 → vp_in (xi σ3 82 l0) (xn σ3 a5) → Q (xai σ3 a5 (xi σ3 82 l0).toNatClampNeg) σ3) ∧ ((xi σ 82 l0) = 0 → Q 0 σ))
set_option maxRecDepth 100000 in
set_option maxHeartbeats 4000000 in
theorem jcX3_pop {Q Q' Q'' : Int32 → kx_S → Prop} (hQ : ∀ y0 y1, Q y0 y1 → Q' y0 y1 → Q'' y0 y1) : ∀ (l0 : Nat) (σ : kx_S), wX3_pop l0 σ Q → vX3_pop l0 σ Q' → wX3_pop l0 σ Q'' := by
  intro l0 σ h v
  unfold wX3_pop at h
  unfold vX3_pop at v
  unfold wX3_pop
  refine ⟨h.1, ?_⟩
  have v := v h.1
  have h := h.2
  refine ⟨?_, ?_⟩
  · have h := h.1
    have v := v.1
    intro e2
    have h := h e2
    have v := v e2
    intro σ3 e3
    have h := h σ3 e3
    have v := v σ3 e3
    obtain ⟨a5, e4, h⟩ := h
    refine ⟨a5, e4, ?_⟩
    have v := v a5 e4
    refine ⟨h.1, ?_⟩
    have v := v h.1
    have h := h.2
    refine ⟨h.1, ?_⟩
    have v := v h.1
    have h := h.2
    exact hQ _ _ h v
  · have h := h.2
    have v := v.2
    intro e7
    have h := h e7
    have v := v e7
    exact hQ _ _ h v
set_option maxRecDepth 100000 in
set_option maxHeartbeats 4000000 in
theorem jaX3_pop {Q Q' : Int32 → kx_S → Prop} (hQ : ∀ y0 y1, Q y0 y1 → Q' y0 y1) : ∀ (l0 : Nat) (σ : kx_S), wX3_pop l0 σ Q → vX3_pop l0 σ Q' := by
  intro l0 σ h
  unfold wX3_pop at h
  unfold vX3_pop
  intro e1
  have h := h.2
  refine ⟨?_, ?_⟩
  · have h := h.1
    intro e2
    have h := h e2
    intro σ3 e3
    have h := h σ3 e3
    obtain ⟨a5', e4, h⟩ := h
    intro a5 e5
    have x9 : a5' = a5 := Option.some.inj (e4.symm.trans e5)
    rw [x9] at h
    intro e6
    have h := h.2
    intro e7
    have h := h.2
    exact hQ _ _ h
  · have h := h.2
    intro e8
    have h := h e8
    exact hQ _ _ h
set_option maxRecDepth 100000 in
set_option maxHeartbeats 4000000 in
theorem jfX3_pop {I : kx_S → Prop} (W : fw_ I [82]) {Q : Int32 → kx_S → Prop} (hQ : ∀ y0 y1, I y1 → Q y0 y1) : ∀ (l0 : Nat) (σ : kx_S), I σ → vX3_pop l0 σ Q := by
  intro l0 σ i
  unfold vX3_pop
  intro e1
  refine ⟨?_, ?_⟩
  · intro e2
    intro σ3 e3
    have iσ3 : I σ3 := by rw [e3]; exact ((W _ i).1 82 (by decide)).1 _ _
    intro a5 e4
    intro e5
    intro e6
    exact hQ _ _ iσ3
  · intro e7
    exact hQ _ _ i
def vX3_join (l0 : Int32) (l1 : Int32) (l2 : Int32) (σ : kx_S) (Q : Int32 → kx_S → Prop) : Prop := ∀ v1, v1 = l0 → ((v1 = (-15) → ((¬ l1 = 0 → Q 1 σ) ∧ (l1 = 0 → ((l2 = 0 → Q 0 σ) ∧ (¬ (l2 = 0) → Q 1 σ))))) ∧ ((v1 = (-14) → ((l1 = 0 → Q 0 σ) ∧ (¬ (l1 = 0) → ((l2 = 0 → Q 0 σ) ∧ (¬ (l2 = 0) → Q 1 σ))))) ∧ ((v1 = (-13) → ((¬ l1 = l2 → Q 0 σ) ∧ (l1 = l2 → Q 1 σ))) ∧ ((v1 = (-12) → ((l2 ≤ l1 → Q 0 σ) ∧ (¬ (l2 ≤ l1) → Q 1 σ))) ∧ ((v1 = (-11) → ((¬ l2 = 0 → ¬ l2 = 0 → Q (l1 / l2) σ) ∧ (l2 = 0 → Q 0 σ))) ∧ ((v1 = (-10) → Q (l1 * l2) σ) ∧ ((v1 = (-9) → Q (l1 - l2) σ) ∧ ((v1 = (-8) → Q (l1 + l2) σ) ∧ (¬ v1 = (-15) → ¬ v1 = (-14) → ¬ v1 = (-13) → ¬ v1 = (-12) → ¬ v1 = (-11) → ¬ v1 = (-10) → ¬ v1 = (-9) → ¬ v1 = (-8) → Q 0 σ)))))))))
set_option maxRecDepth 100000 in
set_option maxHeartbeats 4000000 in
theorem jcX3_join {Q Q' Q'' : Int32 → kx_S → Prop} (hQ : ∀ y0 y1, Q y0 y1 → Q' y0 y1 → Q'' y0 y1) : ∀ (l0 : Int32) (l1 : Int32) (l2 : Int32) (σ : kx_S), wX3_join l0 l1 l2 σ Q → vX3_join l0 l1 l2 σ Q' → wX3_join l0 l1 l2 σ Q'' := by
  intro l0 l1 l2 σ h v
  unfold wX3_join at h
  unfold vX3_join at v
  unfold wX3_join
  intro v1 e1
  have h := h v1 e1
  have v := v v1 e1
  refine ⟨?_, ?_⟩
  · have h := h.1
    have v := v.1
    intro e2
    have h := h e2
    have v := v e2
    refine ⟨?_, ?_⟩
    · have h := h.1
      have v := v.1
      intro e3
      have h := h e3
      have v := v e3
      exact hQ _ _ h v
    · have h := h.2
      have v := v.2
      intro e4
      have h := h e4
      have v := v e4
      refine ⟨?_, ?_⟩
      · have h := h.1
        have v := v.1
        intro e5
        have h := h e5
        have v := v e5
        exact hQ _ _ h v
      · have h := h.2
        have v := v.2
        intro e6
        have h := h e6
        have v := v e6
        exact hQ _ _ h v
  · have h := h.2
    have v := v.2
    refine ⟨?_, ?_⟩
    · have h := h.1
      have v := v.1
      intro e7
      have h := h e7
      have v := v e7
      refine ⟨?_, ?_⟩
      · have h := h.1
        have v := v.1
        intro e8
        have h := h e8
        have v := v e8
        exact hQ _ _ h v
      · have h := h.2
        have v := v.2
        intro e9
        have h := h e9
        have v := v e9
        refine ⟨?_, ?_⟩
        · have h := h.1
          have v := v.1
          intro e10
          have h := h e10
          have v := v e10
          exact hQ _ _ h v
        · have h := h.2
          have v := v.2
          intro e11
          have h := h e11
          have v := v e11
          exact hQ _ _ h v
    · have h := h.2
      have v := v.2
      refine ⟨?_, ?_⟩
      · have h := h.1
        have v := v.1
        intro e12
        have h := h e12
        have v := v e12
        refine ⟨?_, ?_⟩
        · have h := h.1
          have v := v.1
          intro e13
          have h := h e13
          have v := v e13
          exact hQ _ _ h v
        · have h := h.2
          have v := v.2
          intro e14
          have h := h e14
          have v := v e14
          exact hQ _ _ h v
      · have h := h.2
        have v := v.2
        refine ⟨?_, ?_⟩
        · have h := h.1
          have v := v.1
          intro e15
          have h := h e15
          have v := v e15
          refine ⟨?_, ?_⟩
          · have h := h.1
            have v := v.1
            intro e16
            have h := h e16
            have v := v e16
            exact hQ _ _ h v
          · have h := h.2
            have v := v.2
            intro e17
            have h := h e17
            have v := v e17
            exact hQ _ _ h v
        · have h := h.2
          have v := v.2
          refine ⟨?_, ?_⟩
          · have h := h.1
            have v := v.1
            intro e18
            have h := h e18
            have v := v e18
            refine ⟨?_, ?_⟩
            · have h := h.1
              have v := v.1
              intro e19
              have h := h e19
              have v := v e19
              refine ⟨h.1, ?_⟩
              have v := v h.1
              have h := h.2
              exact hQ _ _ h v
            · have h := h.2
              have v := v.2
              intro e21
              have h := h e21
              have v := v e21
              exact hQ _ _ h v
          · have h := h.2
            have v := v.2
            refine ⟨?_, ?_⟩
            · have h := h.1
              have v := v.1
              intro e22
              have h := h e22
              have v := v e22
              exact hQ _ _ h v
            · have h := h.2
              have v := v.2
              refine ⟨?_, ?_⟩
              · have h := h.1
                have v := v.1
                intro e23
                have h := h e23
                have v := v e23
                exact hQ _ _ h v
              · have h := h.2
                have v := v.2
                refine ⟨?_, ?_⟩
                · have h := h.1
                  have v := v.1
                  intro e24
                  have h := h e24
                  have v := v e24
                  exact hQ _ _ h v
                · have h := h.2
                  have v := v.2
                  intro e25 e26 e27 e28 e29 e30 e31 e32
                  have h := h e25 e26 e27 e28 e29 e30 e31 e32
                  have v := v e25 e26 e27 e28 e29 e30 e31 e32
                  exact hQ _ _ h v
set_option maxRecDepth 100000 in
set_option maxHeartbeats 4000000 in
theorem jaX3_join {Q Q' : Int32 → kx_S → Prop} (hQ : ∀ y0 y1, Q y0 y1 → Q' y0 y1) : ∀ (l0 : Int32) (l1 : Int32) (l2 : Int32) (σ : kx_S), wX3_join l0 l1 l2 σ Q → vX3_join l0 l1 l2 σ Q' := by
  intro l0 l1 l2 σ h
  unfold wX3_join at h
  unfold vX3_join
  intro v1 e1
  have h := h v1 e1
  refine ⟨?_, ?_⟩
  · have h := h.1
    intro e2
    have h := h e2
    refine ⟨?_, ?_⟩
    · have h := h.1
      intro e3
      have h := h e3
      exact hQ _ _ h
    · have h := h.2
      intro e4
      have h := h e4
      refine ⟨?_, ?_⟩
      · have h := h.1
        intro e5
        have h := h e5
        exact hQ _ _ h
      · have h := h.2
        intro e6
        have h := h e6
        exact hQ _ _ h
  · have h := h.2
    refine ⟨?_, ?_⟩
    · have h := h.1
      intro e7
      have h := h e7
      refine ⟨?_, ?_⟩
      · have h := h.1
        intro e8
        have h := h e8
        exact hQ _ _ h
      · have h := h.2
        intro e9
        have h := h e9
        refine ⟨?_, ?_⟩
        · have h := h.1
          intro e10
          have h := h e10
          exact hQ _ _ h
        · have h := h.2
          intro e11
          have h := h e11
          exact hQ _ _ h
    · have h := h.2
      refine ⟨?_, ?_⟩
      · have h := h.1
        intro e12
        have h := h e12
        refine ⟨?_, ?_⟩
        · have h := h.1
          intro e13
          have h := h e13
          exact hQ _ _ h
        · have h := h.2
          intro e14
          have h := h e14
          exact hQ _ _ h
      · have h := h.2
        refine ⟨?_, ?_⟩
        · have h := h.1
          intro e15
          have h := h e15
          refine ⟨?_, ?_⟩
          · have h := h.1
            intro e16
            have h := h e16
            exact hQ _ _ h
          · have h := h.2
            intro e17
            have h := h e17
            exact hQ _ _ h
        · have h := h.2
          refine ⟨?_, ?_⟩
          · have h := h.1
            intro e18
            have h := h e18
            refine ⟨?_, ?_⟩
            · have h := h.1
              intro e19
              have h := h e19
              intro e20
              have h := h.2
              exact hQ _ _ h
            · have h := h.2
              intro e21
              have h := h e21
              exact hQ _ _ h
          · have h := h.2
            refine ⟨?_, ?_⟩
            · have h := h.1
              intro e22
              have h := h e22
              exact hQ _ _ h
            · have h := h.2
              refine ⟨?_, ?_⟩
              · have h := h.1
                intro e23
                have h := h e23
                exact hQ _ _ h
              · have h := h.2
                refine ⟨?_, ?_⟩
                · have h := h.1
                  intro e24
                  have h := h e24
                  exact hQ _ _ h
                · have h := h.2
                  intro e25 e26 e27 e28 e29 e30 e31 e32
                  have h := h e25 e26 e27 e28 e29 e30 e31 e32
                  exact hQ _ _ h
set_option maxRecDepth 100000 in
set_option maxHeartbeats 4000000 in
theorem jfX3_join {I : kx_S → Prop} (W : fw_ I []) {Q : Int32 → kx_S → Prop} (hQ : ∀ y0 y1, I y1 → Q y0 y1) : ∀ (l0 : Int32) (l1 : Int32) (l2 : Int32) (σ : kx_S), I σ → vX3_join l0 l1 l2 σ Q := by
  intro l0 l1 l2 σ i
  unfold vX3_join
  intro v1 e1
  refine ⟨?_, ?_⟩
  · intro e2
    refine ⟨?_, ?_⟩
    · intro e3
      exact hQ _ _ i
    · intro e4
      refine ⟨?_, ?_⟩
      · intro e5
        exact hQ _ _ i
      · intro e6
        exact hQ _ _ i
  · refine ⟨?_, ?_⟩
    · intro e7
      refine ⟨?_, ?_⟩
      · intro e8
        exact hQ _ _ i
      · intro e9
        refine ⟨?_, ?_⟩
        · intro e10
          exact hQ _ _ i
        · intro e11
          exact hQ _ _ i
    · refine ⟨?_, ?_⟩
      · intro e12
        refine ⟨?_, ?_⟩
        · intro e13
          exact hQ _ _ i
        · intro e14
          exact hQ _ _ i
      · refine ⟨?_, ?_⟩
        · intro e15
          refine ⟨?_, ?_⟩
          · intro e16
            exact hQ _ _ i
          · intro e17
            exact hQ _ _ i
        · refine ⟨?_, ?_⟩
          · intro e18
            refine ⟨?_, ?_⟩
            · intro e19
              intro e20
              exact hQ _ _ i
            · intro e21
              exact hQ _ _ i
          · refine ⟨?_, ?_⟩
            · intro e22
              exact hQ _ _ i
            · refine ⟨?_, ?_⟩
              · intro e23
                exact hQ _ _ i
              · refine ⟨?_, ?_⟩
                · intro e24
                  exact hQ _ _ i
                · intro e25 e26 e27 e28 e29 e30 e31 e32
                  exact hQ _ _ i
def vX3_step_52 (Q : kx_S → Prop) (s0 : Int32) (s1 : Nat) (σ : kx_S) : Prop := xt σ s1 = 5 → vX3_push s1 s0 σ (fun σ1 => Q σ1)
set_option maxRecDepth 100000 in
set_option maxHeartbeats 4000000 in
theorem jcX3_step_52 {Q Q' Q'' : kx_S → Prop} (hQ : ∀ y0, Q y0 → Q' y0 → Q'' y0) : ∀ (s0 : Int32) (s1 : Nat) (σ : kx_S), wX3_step_52 Q s0 s1 σ → vX3_step_52 Q' s0 s1 σ → wX3_step_52 Q'' s0 s1 σ := by
  intro s0 s1 σ h v
  unfold wX3_step_52 at h
  unfold vX3_step_52 at v
  unfold wX3_step_52
  refine ⟨h.1, ?_⟩
  have v := v h.1
  have h := h.2
  refine jcX3_push ?_ _ _ _ h v
  intro σ1 h v
  exact hQ _ h v
set_option maxRecDepth 100000 in
set_option maxHeartbeats 4000000 in
theorem jaX3_step_52 {Q Q' : kx_S → Prop} (hQ : ∀ y0, Q y0 → Q' y0) : ∀ (s0 : Int32) (s1 : Nat) (σ : kx_S), wX3_step_52 Q s0 s1 σ → vX3_step_52 Q' s0 s1 σ := by
  intro s0 s1 σ h
  unfold wX3_step_52 at h
  unfold vX3_step_52
  intro e1
  have h := h.2
  refine jaX3_push ?_ _ _ _ h
  intro σ1 h
  exact hQ _ h
set_option maxRecDepth 100000 in
set_option maxHeartbeats 4000000 in
theorem jfX3_step_52 {I : kx_S → Prop} (W : fw_ I [82, 1001]) {Q : kx_S → Prop} (hQ : ∀ y0, I y0 → Q y0) : ∀ (s0 : Int32) (s1 : Nat) (σ : kx_S), I σ → vX3_step_52 Q s0 s1 σ := by
  intro s0 s1 σ i
  unfold vX3_step_52
  intro e1
  refine jfX3_push (I := I) (fw_sub W (by decide)) ?_ _ _ _ i
  intro σ1 iσ1
  exact hQ _ iσ1
def vX3_step_81 (Q : kx_S → Prop) (s0 : Int32) (s1 : Int32) (s2 : Nat) (σ : kx_S) : Prop := xt σ s2 = 5 → ((narrow .boolean (.int (s1 ||| s0)) = .int (s1 ||| s0) ∧ fits .boolean (.int (s1 ||| s0)) = true)) → ∀ σ5, σ5 = xsi σ 83 s2 (s1 ||| s0) → Q σ5
set_option maxRecDepth 100000 in
set_option maxHeartbeats 4000000 in
theorem jcX3_step_81 {Q Q' Q'' : kx_S → Prop} (hQ : ∀ y0, Q y0 → Q' y0 → Q'' y0) : ∀ (s0 : Int32) (s1 : Int32) (s2 : Nat) (σ : kx_S), wX3_step_81 Q s0 s1 s2 σ → vX3_step_81 Q' s0 s1 s2 σ → wX3_step_81 Q'' s0 s1 s2 σ := by
  intro s0 s1 s2 σ h v
  unfold wX3_step_81 at h
  unfold vX3_step_81 at v
  unfold wX3_step_81
  refine ⟨h.1, ?_⟩
  have v := v h.1
  have h := h.2
  refine ⟨h.1, ?_⟩
  have v := v h.1
  have h := h.2
  intro σ5 e3
  have h := h σ5 e3
  have v := v σ5 e3
  exact hQ _ h v
set_option maxRecDepth 100000 in
set_option maxHeartbeats 4000000 in
theorem jaX3_step_81 {Q Q' : kx_S → Prop} (hQ : ∀ y0, Q y0 → Q' y0) : ∀ (s0 : Int32) (s1 : Int32) (s2 : Nat) (σ : kx_S), wX3_step_81 Q s0 s1 s2 σ → vX3_step_81 Q' s0 s1 s2 σ := by
  intro s0 s1 s2 σ h
  unfold wX3_step_81 at h
  unfold vX3_step_81
  intro e1
  have h := h.2
  intro e2
  have h := h.2
  intro σ5 e3
  have h := h σ5 e3
  exact hQ _ h
set_option maxRecDepth 100000 in
set_option maxHeartbeats 4000000 in
theorem jfX3_step_81 {I : kx_S → Prop} (W : fw_ I [83]) {Q : kx_S → Prop} (hQ : ∀ y0, I y0 → Q y0) : ∀ (s0 : Int32) (s1 : Int32) (s2 : Nat) (σ : kx_S), I σ → vX3_step_81 Q s0 s1 s2 σ := by
  intro s0 s1 s2 σ i
  unfold vX3_step_81
  intro e1
  intro e2
  intro σ5 e3
  have iσ5 : I σ5 := by rw [e3]; exact ((W _ i).1 83 (by decide)).1 _ _
  exact hQ _ iσ5
def vX3_step (l0 : Nat) (l1 : Int32) (σ : kx_S) (Q : kx_S → Prop) : Prop := ((l1 < 0 → ((l1 < (-7) → ((¬ l1 = (-16) → ((¬ l1 = (-17) → ((¬ l1 = (-18) → xt σ l0 = 5 → vX3_pop l0 σ (fun r13 σ12 => xt σ12 l0 = 5 → vX3_pop l0 σ12 (fun r16 σ15 => vX3_join l1 r16 r13 σ15 (fun r19 σ18 => xt σ18 l0 = 5 → vX3_push l0 r19 σ18 (fun σ20 => Q σ20))))) ∧ (l1 = (-18) → xt σ l0 = 5 → vX3_pop l0 σ (fun r24 σ23 => xt σ23 l0 = 5 → ∀ σ26, σ26 = xsl σ23 84 l0 ((xl σ 84 l0) + r24.toInt64) → Q σ26)))) ∧ (l1 = (-17) → xt σ l0 = 5 → vX3_pop l0 σ (fun r30 σ29 => ((r30 = 0 → vX3_step_81 Q 0 (xi σ 83 l0) l0 σ29) ∧ (¬ (r30 = 0) → vX3_step_81 Q 1 (xi σ 83 l0) l0 σ29)))))) ∧ (l1 = (-16) → xt σ l0 = 5 → vX3_pop l0 σ (fun r33 σ32 => ((¬ r33 = 0 → vX3_step_52 Q 0 l0 σ32) ∧ (r33 = 0 → vX3_step_52 Q 1 l0 σ32)))))) ∧ (¬ (l1 < (-7)) → xt σ l0 = 5 → ∀ a37, xr σ 81 l0 = some a37 → xt σ a37 = 20 → vp_in ((-1) - l1) (xn σ a37) → vX3_push l0 (xai σ a37 ((-1) - l1).toNatClampNeg) σ (fun σ41 => Q σ41)))) ∧ (¬ (l1 < 0) → xt σ l0 = 5 → vX3_push l0 l1 σ (fun σ42 => Q σ42)))
set_option maxRecDepth 100000 in
set_option maxHeartbeats 4000000 in
theorem jcX3_step {Q Q' Q'' : kx_S → Prop} (hQ : ∀ y0, Q y0 → Q' y0 → Q'' y0) : ∀ (l0 : Nat) (l1 : Int32) (σ : kx_S), wX3_step l0 l1 σ Q → vX3_step l0 l1 σ Q' → wX3_step l0 l1 σ Q'' := by
  intro l0 l1 σ h v
  unfold wX3_step at h
  unfold vX3_step at v
  unfold wX3_step
  refine ⟨?_, ?_⟩
  · have h := h.1
    have v := v.1
    intro e1
    have h := h e1
    have v := v e1
    refine ⟨?_, ?_⟩
    · have h := h.1
      have v := v.1
      intro e2
      have h := h e2
      have v := v e2
      refine ⟨?_, ?_⟩
      · have h := h.1
        have v := v.1
        intro e3
        have h := h e3
        have v := v e3
        refine ⟨?_, ?_⟩
        · have h := h.1
          have v := v.1
          intro e4
          have h := h e4
          have v := v e4
          refine ⟨?_, ?_⟩
          · have h := h.1
            have v := v.1
            intro e5
            have h := h e5
            have v := v e5
            refine ⟨h.1, ?_⟩
            have v := v h.1
            have h := h.2
            refine jcX3_pop ?_ _ _ h v
            intro r13 σ12 h v
            refine ⟨h.1, ?_⟩
            have v := v h.1
            have h := h.2
            refine jcX3_pop ?_ _ _ h v
            intro r16 σ15 h v
            refine jcX3_join ?_ _ _ _ _ h v
            intro r19 σ18 h v
            refine ⟨h.1, ?_⟩
            have v := v h.1
            have h := h.2
            refine jcX3_push ?_ _ _ _ h v
            intro σ20 h v
            exact hQ _ h v
          · have h := h.2
            have v := v.2
            intro e9
            have h := h e9
            have v := v e9
            refine ⟨h.1, ?_⟩
            have v := v h.1
            have h := h.2
            refine jcX3_pop ?_ _ _ h v
            intro r24 σ23 h v
            refine ⟨h.1, ?_⟩
            have v := v h.1
            have h := h.2
            intro σ26 e12
            have h := h σ26 e12
            have v := v σ26 e12
            exact hQ _ h v
        · have h := h.2
          have v := v.2
          intro e13
          have h := h e13
          have v := v e13
          refine ⟨h.1, ?_⟩
          have v := v h.1
          have h := h.2
          refine jcX3_pop ?_ _ _ h v
          intro r30 σ29 h v
          refine ⟨?_, ?_⟩
          · have h := h.1
            have v := v.1
            intro e15
            have h := h e15
            have v := v e15
            exact jcX3_step_81 hQ _ _ _ _ h v
          · have h := h.2
            have v := v.2
            intro e16
            have h := h e16
            have v := v e16
            exact jcX3_step_81 hQ _ _ _ _ h v
      · have h := h.2
        have v := v.2
        intro e17
        have h := h e17
        have v := v e17
        refine ⟨h.1, ?_⟩
        have v := v h.1
        have h := h.2
        refine jcX3_pop ?_ _ _ h v
        intro r33 σ32 h v
        refine ⟨?_, ?_⟩
        · have h := h.1
          have v := v.1
          intro e19
          have h := h e19
          have v := v e19
          exact jcX3_step_52 hQ _ _ _ h v
        · have h := h.2
          have v := v.2
          intro e20
          have h := h e20
          have v := v e20
          exact jcX3_step_52 hQ _ _ _ h v
    · have h := h.2
      have v := v.2
      intro e21
      have h := h e21
      have v := v e21
      refine ⟨h.1, ?_⟩
      have v := v h.1
      have h := h.2
      obtain ⟨a37, e23, h⟩ := h
      refine ⟨a37, e23, ?_⟩
      have v := v a37 e23
      refine ⟨h.1, ?_⟩
      have v := v h.1
      have h := h.2
      refine ⟨h.1, ?_⟩
      have v := v h.1
      have h := h.2
      refine jcX3_push ?_ _ _ _ h v
      intro σ41 h v
      exact hQ _ h v
  · have h := h.2
    have v := v.2
    intro e26
    have h := h e26
    have v := v e26
    refine ⟨h.1, ?_⟩
    have v := v h.1
    have h := h.2
    refine jcX3_push ?_ _ _ _ h v
    intro σ42 h v
    exact hQ _ h v
set_option maxRecDepth 100000 in
set_option maxHeartbeats 4000000 in
theorem jaX3_step {Q Q' : kx_S → Prop} (hQ : ∀ y0, Q y0 → Q' y0) : ∀ (l0 : Nat) (l1 : Int32) (σ : kx_S), wX3_step l0 l1 σ Q → vX3_step l0 l1 σ Q' := by
  intro l0 l1 σ h
  unfold wX3_step at h
  unfold vX3_step
  refine ⟨?_, ?_⟩
  · have h := h.1
    intro e1
    have h := h e1
    refine ⟨?_, ?_⟩
    · have h := h.1
      intro e2
      have h := h e2
      refine ⟨?_, ?_⟩
      · have h := h.1
        intro e3
        have h := h e3
        refine ⟨?_, ?_⟩
        · have h := h.1
          intro e4
          have h := h e4
          refine ⟨?_, ?_⟩
          · have h := h.1
            intro e5
            have h := h e5
            intro e6
            have h := h.2
            refine jaX3_pop ?_ _ _ h
            intro r13 σ12 h
            intro e7
            have h := h.2
            refine jaX3_pop ?_ _ _ h
            intro r16 σ15 h
            refine jaX3_join ?_ _ _ _ _ h
            intro r19 σ18 h
            intro e8
            have h := h.2
            refine jaX3_push ?_ _ _ _ h
            intro σ20 h
            exact hQ _ h
          · have h := h.2
            intro e9
            have h := h e9
            intro e10
            have h := h.2
            refine jaX3_pop ?_ _ _ h
            intro r24 σ23 h
            intro e11
            have h := h.2
            intro σ26 e12
            have h := h σ26 e12
            exact hQ _ h
        · have h := h.2
          intro e13
          have h := h e13
          intro e14
          have h := h.2
          refine jaX3_pop ?_ _ _ h
          intro r30 σ29 h
          refine ⟨?_, ?_⟩
          · have h := h.1
            intro e15
            have h := h e15
            exact jaX3_step_81 hQ _ _ _ _ h
          · have h := h.2
            intro e16
            have h := h e16
            exact jaX3_step_81 hQ _ _ _ _ h
      · have h := h.2
        intro e17
        have h := h e17
        intro e18
        have h := h.2
        refine jaX3_pop ?_ _ _ h
        intro r33 σ32 h
        refine ⟨?_, ?_⟩
        · have h := h.1
          intro e19
          have h := h e19
          exact jaX3_step_52 hQ _ _ _ h
        · have h := h.2
          intro e20
          have h := h e20
          exact jaX3_step_52 hQ _ _ _ h
    · have h := h.2
      intro e21
      have h := h e21
      intro e22
      have h := h.2
      obtain ⟨a37', e23, h⟩ := h
      intro a37 e24
      have x9 : a37' = a37 := Option.some.inj (e23.symm.trans e24)
      rw [x9] at h
      intro e25
      have h := h.2
      intro e26
      have h := h.2
      refine jaX3_push ?_ _ _ _ h
      intro σ41 h
      exact hQ _ h
  · have h := h.2
    intro e27
    have h := h e27
    intro e28
    have h := h.2
    refine jaX3_push ?_ _ _ _ h
    intro σ42 h
    exact hQ _ h
set_option maxRecDepth 100000 in
set_option maxHeartbeats 4000000 in
theorem jfX3_step {I : kx_S → Prop} (W : fw_ I [82, 83, 84, 1001]) {Q : kx_S → Prop} (hQ : ∀ y0, I y0 → Q y0) : ∀ (l0 : Nat) (l1 : Int32) (σ : kx_S), I σ → vX3_step l0 l1 σ Q := by
  intro l0 l1 σ i
  unfold vX3_step
  refine ⟨?_, ?_⟩
  · intro e1
    refine ⟨?_, ?_⟩
    · intro e2
      refine ⟨?_, ?_⟩
      · intro e3
        refine ⟨?_, ?_⟩
        · intro e4
          refine ⟨?_, ?_⟩
          · intro e5
            intro e6
            refine jfX3_pop (I := I) (fw_sub W (by decide)) ?_ _ _ i
            intro r13 σ12 iσ12
            intro e7
            refine jfX3_pop (I := I) (fw_sub W (by decide)) ?_ _ _ iσ12
            intro r16 σ15 iσ15
            refine jfX3_join (I := I) (fw_sub W (by decide)) ?_ _ _ _ _ iσ15
            intro r19 σ18 iσ18
            intro e8
            refine jfX3_push (I := I) (fw_sub W (by decide)) ?_ _ _ _ iσ18
            intro σ20 iσ20
            exact hQ _ iσ20
          · intro e9
            intro e10
            refine jfX3_pop (I := I) (fw_sub W (by decide)) ?_ _ _ i
            intro r24 σ23 iσ23
            intro e11
            intro σ26 e12
            have iσ26 : I σ26 := by rw [e12]; exact ((W _ iσ23).1 84 (by decide)).2.2 _ _
            exact hQ _ iσ26
        · intro e13
          intro e14
          refine jfX3_pop (I := I) (fw_sub W (by decide)) ?_ _ _ i
          intro r30 σ29 iσ29
          refine ⟨?_, ?_⟩
          · intro e15
            exact jfX3_step_81 (I := I) (fw_sub W (by decide)) hQ _ _ _ _ iσ29
          · intro e16
            exact jfX3_step_81 (I := I) (fw_sub W (by decide)) hQ _ _ _ _ iσ29
      · intro e17
        intro e18
        refine jfX3_pop (I := I) (fw_sub W (by decide)) ?_ _ _ i
        intro r33 σ32 iσ32
        refine ⟨?_, ?_⟩
        · intro e19
          exact jfX3_step_52 (I := I) (fw_sub W (by decide)) hQ _ _ _ iσ32
        · intro e20
          exact jfX3_step_52 (I := I) (fw_sub W (by decide)) hQ _ _ _ iσ32
    · intro e21
      intro e22
      intro a37 e23
      intro e24
      intro e25
      refine jfX3_push (I := I) (fw_sub W (by decide)) ?_ _ _ _ i
      intro σ41 iσ41
      exact hQ _ iσ41
  · intro e26
    intro e27
    refine jfX3_push (I := I) (fw_sub W (by decide)) ?_ _ _ _ i
    intro σ42 iσ42
    exact hQ _ iσ42
def vX3_weigh_91 (Q : kx_S → Prop) : Nat → Nat → (Option Nat) → Int32 → kx_S → Prop
  | 0, _, _, _, _ => True
  | n + 1, l0, l1, l5, σ => ∀ a1, l1 = some a1 → xt σ a1 = 6 → ∀ a4, xr σ 97 a1 = some a4 → xt σ a4 = 20 → (((nI (xn σ a4)) ≤ l5 → Q σ) ∧ (¬ ((nI (xn σ a4)) ≤ l5) → ∀ a8, l1 = some a8 → xt σ a8 = 6 → ∀ a11, xr σ 97 a8 = some a11 → xt σ a11 = 20 → vp_in l5 (xn σ a11) → xt σ l0 = 5 → vX3_step l0 (xai σ a11 l5.toNatClampNeg) σ (fun σ15 => ∀ v17 : Int32, v17 = l5 + 1 → vX3_weigh_91 Q n l0 l1 v17 σ15)))
set_option maxRecDepth 100000 in
set_option maxHeartbeats 4000000 in
theorem jcX3_weigh_91 {Q Q' Q'' : kx_S → Prop} (hQ : ∀ y0, Q y0 → Q' y0 → Q'' y0) : ∀ (n : Nat) (l0 : Nat) (l1 : (Option Nat)) (l5 : Int32) (σ : kx_S), wX3_weigh_91 Q n l0 l1 l5 σ → vX3_weigh_91 Q' n l0 l1 l5 σ → wX3_weigh_91 Q'' n l0 l1 l5 σ := by
  intro n
  induction n with
  | zero => intro l0 l1 l5 σ h; exact h.elim
  | succ n ih =>
    intro l0 l1 l5 σ h v
    unfold wX3_weigh_91 at h
    unfold vX3_weigh_91 at v
    unfold wX3_weigh_91
    obtain ⟨a1, e1, h⟩ := h
    refine ⟨a1, e1, ?_⟩
    have v := v a1 e1
    refine ⟨h.1, ?_⟩
    have v := v h.1
    have h := h.2
    obtain ⟨a4, e3, h⟩ := h
    refine ⟨a4, e3, ?_⟩
    have v := v a4 e3
    refine ⟨h.1, ?_⟩
    have v := v h.1
    have h := h.2
    refine ⟨?_, ?_⟩
    · have h := h.1
      have v := v.1
      intro e5
      have h := h e5
      have v := v e5
      exact hQ _ h v
    · have h := h.2
      have v := v.2
      intro e6
      have h := h e6
      have v := v e6
      obtain ⟨a8, e7, h⟩ := h
      refine ⟨a8, e7, ?_⟩
      have v := v a8 e7
      refine ⟨h.1, ?_⟩
      have v := v h.1
      have h := h.2
      obtain ⟨a11, e9, h⟩ := h
      refine ⟨a11, e9, ?_⟩
      have v := v a11 e9
      refine ⟨h.1, ?_⟩
      have v := v h.1
      have h := h.2
      refine ⟨h.1, ?_⟩
      have v := v h.1
      have h := h.2
      refine ⟨h.1, ?_⟩
      have v := v h.1
      have h := h.2
      refine jcX3_step ?_ _ _ _ h v
      intro σ15 h v
      intro v17 e13
      have h := h v17 e13
      have v := v v17 e13
      exact ih _ _ _ _ h v
set_option maxRecDepth 100000 in
set_option maxHeartbeats 4000000 in
theorem jaX3_weigh_91 {Q Q' : kx_S → Prop} (hQ : ∀ y0, Q y0 → Q' y0) : ∀ (n m : Nat) (l0 : Nat) (l1 : (Option Nat)) (l5 : Int32) (σ : kx_S), wX3_weigh_91 Q n l0 l1 l5 σ → vX3_weigh_91 Q' m l0 l1 l5 σ := by
  intro n
  induction n with
  | zero => intro m l0 l1 l5 σ h; exact h.elim
  | succ n ih =>
    intro m l0 l1 l5 σ h
    cases m with
    | zero => exact trivial
    | succ m =>
      unfold wX3_weigh_91 at h
      unfold vX3_weigh_91
      obtain ⟨a1', e1, h⟩ := h
      intro a1 e2
      have x9 : a1' = a1 := Option.some.inj (e1.symm.trans e2)
      rw [x9] at h
      intro e3
      have h := h.2
      obtain ⟨a4', e4, h⟩ := h
      intro a4 e5
      have x9 : a4' = a4 := Option.some.inj (e4.symm.trans e5)
      rw [x9] at h
      intro e6
      have h := h.2
      refine ⟨?_, ?_⟩
      · have h := h.1
        intro e7
        have h := h e7
        exact hQ _ h
      · have h := h.2
        intro e8
        have h := h e8
        obtain ⟨a8', e9, h⟩ := h
        intro a8 e10
        have x9 : a8' = a8 := Option.some.inj (e9.symm.trans e10)
        rw [x9] at h
        intro e11
        have h := h.2
        obtain ⟨a11', e12, h⟩ := h
        intro a11 e13
        have x9 : a11' = a11 := Option.some.inj (e12.symm.trans e13)
        rw [x9] at h
        intro e14
        have h := h.2
        intro e15
        have h := h.2
        intro e16
        have h := h.2
        refine jaX3_step ?_ _ _ _ h
        intro σ15 h
        intro v17 e17
        have h := h v17 e17
        exact ih m _ _ _ _ h
set_option maxRecDepth 100000 in
set_option maxHeartbeats 4000000 in
theorem jfX3_weigh_91 {I : kx_S → Prop} (W : fw_ I [82, 83, 84, 1001]) {Q : kx_S → Prop} (hQ : ∀ y0, I y0 → Q y0) : ∀ (n : Nat) (l0 : Nat) (l1 : (Option Nat)) (l5 : Int32) (σ : kx_S), I σ → vX3_weigh_91 Q n l0 l1 l5 σ := by
  intro n
  induction n with
  | zero => intro l0 l1 l5 σ i; exact trivial
  | succ n ih =>
    intro l0 l1 l5 σ i
    unfold vX3_weigh_91
    intro a1 e1
    intro e2
    intro a4 e3
    intro e4
    refine ⟨?_, ?_⟩
    · intro e5
      exact hQ _ i
    · intro e6
      intro a8 e7
      intro e8
      intro a11 e9
      intro e10
      intro e11
      intro e12
      refine jfX3_step (I := I) (fw_sub W (by decide)) ?_ _ _ _ i
      intro σ15 iσ15
      intro v17 e13
      exact ih _ _ _ _ iσ15
def vX3_weigh (l0 : Nat) (l1 : Option Nat) (l2 : Nat) (l3 : Int32) (l4 : Int32) (σ : kx_S) (Q : kx_S → Prop) : Prop := xt σ l0 = 5 → ∀ σ19, σ19 = xsi σ 83 l0 0 → ∀ σ21, σ21 = xsl σ19 84 l0 (0 : Int64) → ∀ σ23, σ23 = xsi σ21 82 l0 0 → ((∀ a26, l1 = some a26 → xt σ23 l2 = 8 → vX3_name l0 (-1) (xi σ23 129 l2) σ23 (fun σ28 => xt σ28 l2 = 8 → xt σ28 l0 = 5 → vX3_name l0 (-2) (xi σ28 130 l2) σ28 (fun σ30 => xt σ30 l2 = 8 → xt σ30 l0 = 5 → vX3_name l0 (-3) (xi σ30 131 l2) σ30 (fun σ33 => xt σ33 l0 = 5 → vX3_name l0 (-4) (l4 - l4 / 24 * 24) σ33 (fun σ35 => xt σ35 l0 = 5 → vX3_name l0 (-5) (l4 / 24) σ35 (fun σ37 => xt σ37 l0 = 5 → vX3_name l0 (-6) l3 σ37 (fun σ39 => xt σ39 l2 = 8 → xt σ39 l0 = 5 → vX3_name l0 (-7) (xi σ39 135 l2) σ39 (fun σ42 => ∀ j, vX3_weigh_91 Q j l0 (some a26) 0 σ42)))))))) ∧ (l1 = none → Q σ23))
set_option maxRecDepth 100000 in
set_option maxHeartbeats 4000000 in
theorem jcX3_weigh {Q Q' Q'' : kx_S → Prop} (hQ : ∀ y0, Q y0 → Q' y0 → Q'' y0) : ∀ (l0 : Nat) (l1 : Option Nat) (l2 : Nat) (l3 : Int32) (l4 : Int32) (σ : kx_S), wX3_weigh l0 l1 l2 l3 l4 σ Q → vX3_weigh l0 l1 l2 l3 l4 σ Q' → wX3_weigh l0 l1 l2 l3 l4 σ Q'' := by
  intro l0 l1 l2 l3 l4 σ h v
  unfold wX3_weigh at h
  unfold vX3_weigh at v
  unfold wX3_weigh
  refine ⟨h.1, ?_⟩
  have v := v h.1
  have h := h.2
  intro σ19 e2
  have h := h σ19 e2
  have v := v σ19 e2
  intro σ21 e3
  have h := h σ21 e3
  have v := v σ21 e3
  intro σ23 e4
  have h := h σ23 e4
  have v := v σ23 e4
  refine ⟨?_, ?_⟩
  · have h := h.1
    have v := v.1
    intro a26 e5
    have h := h a26 e5
    have v := v a26 e5
    refine ⟨h.1, ?_⟩
    have v := v h.1
    have h := h.2
    refine jcX3_name ?_ _ _ _ _ h v
    intro σ28 h v
    refine ⟨h.1, ?_⟩
    have v := v h.1
    have h := h.2
    refine ⟨h.1, ?_⟩
    have v := v h.1
    have h := h.2
    refine jcX3_name ?_ _ _ _ _ h v
    intro σ30 h v
    refine ⟨h.1, ?_⟩
    have v := v h.1
    have h := h.2
    refine ⟨h.1, ?_⟩
    have v := v h.1
    have h := h.2
    refine jcX3_name ?_ _ _ _ _ h v
    intro σ33 h v
    refine ⟨h.1, ?_⟩
    have v := v h.1
    have h := h.2
    refine jcX3_name ?_ _ _ _ _ h v
    intro σ35 h v
    refine ⟨h.1, ?_⟩
    have v := v h.1
    have h := h.2
    refine jcX3_name ?_ _ _ _ _ h v
    intro σ37 h v
    refine ⟨h.1, ?_⟩
    have v := v h.1
    have h := h.2
    refine jcX3_name ?_ _ _ _ _ h v
    intro σ39 h v
    refine ⟨h.1, ?_⟩
    have v := v h.1
    have h := h.2
    refine ⟨h.1, ?_⟩
    have v := v h.1
    have h := h.2
    refine jcX3_name ?_ _ _ _ _ h v
    intro σ42 h v
    obtain ⟨j, h⟩ := h
    refine ⟨j, ?_⟩
    have v := v j
    exact jcX3_weigh_91 hQ _ _ _ _ _ h v
  · have h := h.2
    have v := v.2
    intro e16
    have h := h e16
    have v := v e16
    exact hQ _ h v
set_option maxRecDepth 100000 in
set_option maxHeartbeats 4000000 in
theorem jaX3_weigh {Q Q' : kx_S → Prop} (hQ : ∀ y0, Q y0 → Q' y0) : ∀ (l0 : Nat) (l1 : Option Nat) (l2 : Nat) (l3 : Int32) (l4 : Int32) (σ : kx_S), wX3_weigh l0 l1 l2 l3 l4 σ Q → vX3_weigh l0 l1 l2 l3 l4 σ Q' := by
  intro l0 l1 l2 l3 l4 σ h
  unfold wX3_weigh at h
  unfold vX3_weigh
  intro e1
  have h := h.2
  intro σ19 e2
  have h := h σ19 e2
  intro σ21 e3
  have h := h σ21 e3
  intro σ23 e4
  have h := h σ23 e4
  refine ⟨?_, ?_⟩
  · have h := h.1
    intro a26 e5
    have h := h a26 e5
    intro e6
    have h := h.2
    refine jaX3_name ?_ _ _ _ _ h
    intro σ28 h
    intro e7
    have h := h.2
    intro e8
    have h := h.2
    refine jaX3_name ?_ _ _ _ _ h
    intro σ30 h
    intro e9
    have h := h.2
    intro e10
    have h := h.2
    refine jaX3_name ?_ _ _ _ _ h
    intro σ33 h
    intro e11
    have h := h.2
    refine jaX3_name ?_ _ _ _ _ h
    intro σ35 h
    intro e12
    have h := h.2
    refine jaX3_name ?_ _ _ _ _ h
    intro σ37 h
    intro e13
    have h := h.2
    refine jaX3_name ?_ _ _ _ _ h
    intro σ39 h
    intro e14
    have h := h.2
    intro e15
    have h := h.2
    refine jaX3_name ?_ _ _ _ _ h
    intro σ42 h
    obtain ⟨j, h⟩ := h
    intro j9
    exact jaX3_weigh_91 hQ _ j9 _ _ _ _ h
  · have h := h.2
    intro e16
    have h := h e16
    exact hQ _ h
set_option maxRecDepth 100000 in
set_option maxHeartbeats 4000000 in
theorem jfX3_weigh {I : kx_S → Prop} (W : fw_ I [82, 83, 84, 1001]) {Q : kx_S → Prop} (hQ : ∀ y0, I y0 → Q y0) : ∀ (l0 : Nat) (l1 : Option Nat) (l2 : Nat) (l3 : Int32) (l4 : Int32) (σ : kx_S), I σ → vX3_weigh l0 l1 l2 l3 l4 σ Q := by
  intro l0 l1 l2 l3 l4 σ i
  unfold vX3_weigh
  intro e1
  intro σ19 e2
  have iσ19 : I σ19 := by rw [e2]; exact ((W _ i).1 83 (by decide)).1 _ _
  intro σ21 e3
  have iσ21 : I σ21 := by rw [e3]; exact ((W _ iσ19).1 84 (by decide)).2.2 _ _
  intro σ23 e4
  have iσ23 : I σ23 := by rw [e4]; exact ((W _ iσ21).1 82 (by decide)).1 _ _
  refine ⟨?_, ?_⟩
  · intro a26 e5
    intro e6
    refine jfX3_name (I := I) (fw_sub W (by decide)) ?_ _ _ _ _ iσ23
    intro σ28 iσ28
    intro e7
    intro e8
    refine jfX3_name (I := I) (fw_sub W (by decide)) ?_ _ _ _ _ iσ28
    intro σ30 iσ30
    intro e9
    intro e10
    refine jfX3_name (I := I) (fw_sub W (by decide)) ?_ _ _ _ _ iσ30
    intro σ33 iσ33
    intro e11
    refine jfX3_name (I := I) (fw_sub W (by decide)) ?_ _ _ _ _ iσ33
    intro σ35 iσ35
    intro e12
    refine jfX3_name (I := I) (fw_sub W (by decide)) ?_ _ _ _ _ iσ35
    intro σ37 iσ37
    intro e13
    refine jfX3_name (I := I) (fw_sub W (by decide)) ?_ _ _ _ _ iσ37
    intro σ39 iσ39
    intro e14
    intro e15
    refine jfX3_name (I := I) (fw_sub W (by decide)) ?_ _ _ _ _ iσ39
    intro σ42 iσ42
    intro j
    exact jfX3_weigh_91 (I := I) (fw_sub W (by decide)) hQ _ _ _ _ _ iσ42
  · intro e16
    exact hQ _ iσ23
def vX4_init (l0 : Nat) (l1 : Int32) (l2 : Nat) (σ : kx_S) (Q : kx_S → Prop) : Prop := xt σ l0 = 6 → ∀ σ2, σ2 = xsi σ 96 l0 l1 → ∀ σ4, σ4 = xsr σ2 97 l0 (some l2) → Q σ4
set_option maxRecDepth 100000 in
set_option maxHeartbeats 4000000 in
theorem jcX4_init {Q Q' Q'' : kx_S → Prop} (hQ : ∀ y0, Q y0 → Q' y0 → Q'' y0) : ∀ (l0 : Nat) (l1 : Int32) (l2 : Nat) (σ : kx_S), wX4_init l0 l1 l2 σ Q → vX4_init l0 l1 l2 σ Q' → wX4_init l0 l1 l2 σ Q'' := by
  intro l0 l1 l2 σ h v
  unfold wX4_init at h
  unfold vX4_init at v
  unfold wX4_init
  refine ⟨h.1, ?_⟩
  have v := v h.1
  have h := h.2
  intro σ2 e2
  have h := h σ2 e2
  have v := v σ2 e2
  intro σ4 e3
  have h := h σ4 e3
  have v := v σ4 e3
  exact hQ _ h v
set_option maxRecDepth 100000 in
set_option maxHeartbeats 4000000 in
theorem jaX4_init {Q Q' : kx_S → Prop} (hQ : ∀ y0, Q y0 → Q' y0) : ∀ (l0 : Nat) (l1 : Int32) (l2 : Nat) (σ : kx_S), wX4_init l0 l1 l2 σ Q → vX4_init l0 l1 l2 σ Q' := by
  intro l0 l1 l2 σ h
  unfold wX4_init at h
  unfold vX4_init
  intro e1
  have h := h.2
  intro σ2 e2
  have h := h σ2 e2
  intro σ4 e3
  have h := h σ4 e3
  exact hQ _ h
set_option maxRecDepth 100000 in
set_option maxHeartbeats 4000000 in
theorem jfX4_init {I : kx_S → Prop} (W : fw_ I [96, 97]) {Q : kx_S → Prop} (hQ : ∀ y0, I y0 → Q y0) : ∀ (l0 : Nat) (l1 : Int32) (l2 : Nat) (σ : kx_S), I σ → vX4_init l0 l1 l2 σ Q := by
  intro l0 l1 l2 σ i
  unfold vX4_init
  intro e1
  intro σ2 e2
  have iσ2 : I σ2 := by rw [e2]; exact ((W _ i).1 96 (by decide)).1 _ _
  intro σ4 e3
  have iσ4 : I σ4 := by rw [e3]; exact ((W _ iσ2).1 97 (by decide)).2.1 _ _
  exact hQ _ iσ4

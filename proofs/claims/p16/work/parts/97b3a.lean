def vX10_init (l0 : Nat) (l1 : Nat) (σ : kx_S) (Q : kx_S → Prop) : Prop := xt σ l0 = 12 → ∀ σ2, σ2 = xsr σ 192 l0 (some l1) → Q σ2
set_option maxRecDepth 100000 in
set_option maxHeartbeats 4000000 in
theorem jcX10_init {Q Q' Q'' : kx_S → Prop} (hQ : ∀ y0, Q y0 → Q' y0 → Q'' y0) : ∀ (l0 : Nat) (l1 : Nat) (σ : kx_S), wX10_init l0 l1 σ Q → vX10_init l0 l1 σ Q' → wX10_init l0 l1 σ Q'' := by
  intro l0 l1 σ h v
  unfold wX10_init at h
  unfold vX10_init at v
  unfold wX10_init
  refine ⟨h.1, ?_⟩
  have v := v h.1
  have h := h.2
  intro σ2 e2
  have h := h σ2 e2
  have v := v σ2 e2
  exact hQ _ h v
set_option maxRecDepth 100000 in
set_option maxHeartbeats 4000000 in
theorem jaX10_init {Q Q' : kx_S → Prop} (hQ : ∀ y0, Q y0 → Q' y0) : ∀ (l0 : Nat) (l1 : Nat) (σ : kx_S), wX10_init l0 l1 σ Q → vX10_init l0 l1 σ Q' := by
  intro l0 l1 σ h
  unfold wX10_init at h
  unfold vX10_init
  intro e1
  have h := h.2
  intro σ2 e2
  have h := h σ2 e2
  exact hQ _ h
set_option maxRecDepth 100000 in
set_option maxHeartbeats 4000000 in
theorem jfX10_init {I : kx_S → Prop} (W : fw_ I [192]) {Q : kx_S → Prop} (hQ : ∀ y0, I y0 → Q y0) : ∀ (l0 : Nat) (l1 : Nat) (σ : kx_S), I σ → vX10_init l0 l1 σ Q := by
  intro l0 l1 σ i
  unfold vX10_init
  intro e1
  intro σ2 e2
  have iσ2 : I σ2 := by rw [e2]; exact ((W _ i).1 192 (by decide)).2.1 _ _
  exact hQ _ iσ2
def vX10_kindOf_28 (Q : Int32 → kx_S → Prop) (l0 : Int32) (σ : kx_S) : Prop := ∀ v1, v1 = l0 → ((v1 = (-1) → Q 0 σ) ∧ ((v1 = 10 → Q 5 σ) ∧ ((v1 = 32 → Q 5 σ) ∧ ((v1 = 40 → Q l0 σ) ∧ ((v1 = 41 → Q l0 σ) ∧ ((v1 = 42 → Q l0 σ) ∧ ((v1 = 43 → Q l0 σ) ∧ ((v1 = 45 → Q l0 σ) ∧ ((v1 = 47 → Q l0 σ) ∧ ((v1 = 59 → Q l0 σ) ∧ ((v1 = 60 → Q l0 σ) ∧ ((v1 = 61 → Q l0 σ) ∧ (¬ v1 = (-1) → ¬ v1 = 10 → ¬ v1 = 32 → ¬ v1 = 40 → ¬ v1 = 41 → ¬ v1 = 42 → ¬ v1 = 43 → ¬ v1 = 45 → ¬ v1 = 47 → ¬ v1 = 59 → ¬ v1 = 60 → ¬ v1 = 61 → Q 4 σ)))))))))))))
set_option maxRecDepth 100000 in
set_option maxHeartbeats 4000000 in
theorem jcX10_kindOf_28 {Q Q' Q'' : Int32 → kx_S → Prop} (hQ : ∀ y0 y1, Q y0 y1 → Q' y0 y1 → Q'' y0 y1) : ∀ (l0 : Int32) (σ : kx_S), wX10_kindOf_28 Q l0 σ → vX10_kindOf_28 Q' l0 σ → wX10_kindOf_28 Q'' l0 σ := by
  intro l0 σ h v
  unfold wX10_kindOf_28 at h
  unfold vX10_kindOf_28 at v
  unfold wX10_kindOf_28
  intro v1 e1
  have h := h v1 e1
  have v := v v1 e1
  refine ⟨?_, ?_⟩
  · have h := h.1
    have v := v.1
    intro e2
    have h := h e2
    have v := v e2
    exact hQ _ _ h v
  · have h := h.2
    have v := v.2
    refine ⟨?_, ?_⟩
    · have h := h.1
      have v := v.1
      intro e3
      have h := h e3
      have v := v e3
      exact hQ _ _ h v
    · have h := h.2
      have v := v.2
      refine ⟨?_, ?_⟩
      · have h := h.1
        have v := v.1
        intro e4
        have h := h e4
        have v := v e4
        exact hQ _ _ h v
      · have h := h.2
        have v := v.2
        refine ⟨?_, ?_⟩
        · have h := h.1
          have v := v.1
          intro e5
          have h := h e5
          have v := v e5
          exact hQ _ _ h v
        · have h := h.2
          have v := v.2
          refine ⟨?_, ?_⟩
          · have h := h.1
            have v := v.1
            intro e6
            have h := h e6
            have v := v e6
            exact hQ _ _ h v
          · have h := h.2
            have v := v.2
            refine ⟨?_, ?_⟩
            · have h := h.1
              have v := v.1
              intro e7
              have h := h e7
              have v := v e7
              exact hQ _ _ h v
            · have h := h.2
              have v := v.2
              refine ⟨?_, ?_⟩
              · have h := h.1
                have v := v.1
                intro e8
                have h := h e8
                have v := v e8
                exact hQ _ _ h v
              · have h := h.2
                have v := v.2
                refine ⟨?_, ?_⟩
                · have h := h.1
                  have v := v.1
                  intro e9
                  have h := h e9
                  have v := v e9
                  exact hQ _ _ h v
                · have h := h.2
                  have v := v.2
                  refine ⟨?_, ?_⟩
                  · have h := h.1
                    have v := v.1
                    intro e10
                    have h := h e10
                    have v := v e10
                    exact hQ _ _ h v
                  · have h := h.2
                    have v := v.2
                    refine ⟨?_, ?_⟩
                    · have h := h.1
                      have v := v.1
                      intro e11
                      have h := h e11
                      have v := v e11
                      exact hQ _ _ h v
                    · have h := h.2
                      have v := v.2
                      refine ⟨?_, ?_⟩
                      · have h := h.1
                        have v := v.1
                        intro e12
                        have h := h e12
                        have v := v e12
                        exact hQ _ _ h v
                      · have h := h.2
                        have v := v.2
                        refine ⟨?_, ?_⟩
                        · have h := h.1
                          have v := v.1
                          intro e13
                          have h := h e13
                          have v := v e13
                          exact hQ _ _ h v
                        · have h := h.2
                          have v := v.2
                          intro e14 e15 e16 e17 e18 e19 e20 e21 e22 e23 e24 e25
                          have h := h e14 e15 e16 e17 e18 e19 e20 e21 e22 e23 e24 e25
                          have v := v e14 e15 e16 e17 e18 e19 e20 e21 e22 e23 e24 e25
                          exact hQ _ _ h v
set_option maxRecDepth 100000 in
set_option maxHeartbeats 4000000 in
theorem jaX10_kindOf_28 {Q Q' : Int32 → kx_S → Prop} (hQ : ∀ y0 y1, Q y0 y1 → Q' y0 y1) : ∀ (l0 : Int32) (σ : kx_S), wX10_kindOf_28 Q l0 σ → vX10_kindOf_28 Q' l0 σ := by
  intro l0 σ h
  unfold wX10_kindOf_28 at h
  unfold vX10_kindOf_28
  intro v1 e1
  have h := h v1 e1
  refine ⟨?_, ?_⟩
  · have h := h.1
    intro e2
    have h := h e2
    exact hQ _ _ h
  · have h := h.2
    refine ⟨?_, ?_⟩
    · have h := h.1
      intro e3
      have h := h e3
      exact hQ _ _ h
    · have h := h.2
      refine ⟨?_, ?_⟩
      · have h := h.1
        intro e4
        have h := h e4
        exact hQ _ _ h
      · have h := h.2
        refine ⟨?_, ?_⟩
        · have h := h.1
          intro e5
          have h := h e5
          exact hQ _ _ h
        · have h := h.2
          refine ⟨?_, ?_⟩
          · have h := h.1
            intro e6
            have h := h e6
            exact hQ _ _ h
          · have h := h.2
            refine ⟨?_, ?_⟩
            · have h := h.1
              intro e7
              have h := h e7
              exact hQ _ _ h
            · have h := h.2
              refine ⟨?_, ?_⟩
              · have h := h.1
                intro e8
                have h := h e8
                exact hQ _ _ h
              · have h := h.2
                refine ⟨?_, ?_⟩
                · have h := h.1
                  intro e9
                  have h := h e9
                  exact hQ _ _ h
                · have h := h.2
                  refine ⟨?_, ?_⟩
                  · have h := h.1
                    intro e10
                    have h := h e10
                    exact hQ _ _ h
                  · have h := h.2
                    refine ⟨?_, ?_⟩
                    · have h := h.1
                      intro e11
                      have h := h e11
                      exact hQ _ _ h
                    · have h := h.2
                      refine ⟨?_, ?_⟩
                      · have h := h.1
                        intro e12
                        have h := h e12
                        exact hQ _ _ h
                      · have h := h.2
                        refine ⟨?_, ?_⟩
                        · have h := h.1
                          intro e13
                          have h := h e13
                          exact hQ _ _ h
                        · have h := h.2
                          intro e14 e15 e16 e17 e18 e19 e20 e21 e22 e23 e24 e25
                          have h := h e14 e15 e16 e17 e18 e19 e20 e21 e22 e23 e24 e25
                          exact hQ _ _ h
set_option maxRecDepth 100000 in
set_option maxHeartbeats 4000000 in
theorem jfX10_kindOf_28 {I : kx_S → Prop} (W : fw_ I []) {Q : Int32 → kx_S → Prop} (hQ : ∀ y0 y1, I y1 → Q y0 y1) : ∀ (l0 : Int32) (σ : kx_S), I σ → vX10_kindOf_28 Q l0 σ := by
  intro l0 σ i
  unfold vX10_kindOf_28
  intro v1 e1
  refine ⟨?_, ?_⟩
  · intro e2
    exact hQ _ _ i
  · refine ⟨?_, ?_⟩
    · intro e3
      exact hQ _ _ i
    · refine ⟨?_, ?_⟩
      · intro e4
        exact hQ _ _ i
      · refine ⟨?_, ?_⟩
        · intro e5
          exact hQ _ _ i
        · refine ⟨?_, ?_⟩
          · intro e6
            exact hQ _ _ i
          · refine ⟨?_, ?_⟩
            · intro e7
              exact hQ _ _ i
            · refine ⟨?_, ?_⟩
              · intro e8
                exact hQ _ _ i
              · refine ⟨?_, ?_⟩
                · intro e9
                  exact hQ _ _ i
                · refine ⟨?_, ?_⟩
                  · intro e10
                    exact hQ _ _ i
                  · refine ⟨?_, ?_⟩
                    · intro e11
                      exact hQ _ _ i
                    · refine ⟨?_, ?_⟩
                      · intro e12
                        exact hQ _ _ i
                      · refine ⟨?_, ?_⟩
                        · intro e13
                          exact hQ _ _ i
                        · intro e14 e15 e16 e17 e18 e19 e20 e21 e22 e23 e24 e25
                          exact hQ _ _ i
def vX10_kindOf_14 (Q : Int32 → kx_S → Prop) (l0 : Int32) (σ : kx_S) : Prop := ((l0 < 48 → vX10_kindOf_28 Q l0 σ) ∧ (¬ (l0 < 48) → ((57 < l0 → vX10_kindOf_28 Q l0 σ) ∧ (¬ (57 < l0) → Q 2 σ))))
set_option maxRecDepth 100000 in
set_option maxHeartbeats 4000000 in
theorem jcX10_kindOf_14 {Q Q' Q'' : Int32 → kx_S → Prop} (hQ : ∀ y0 y1, Q y0 y1 → Q' y0 y1 → Q'' y0 y1) : ∀ (l0 : Int32) (σ : kx_S), wX10_kindOf_14 Q l0 σ → vX10_kindOf_14 Q' l0 σ → wX10_kindOf_14 Q'' l0 σ := by
  intro l0 σ h v
  unfold wX10_kindOf_14 at h
  unfold vX10_kindOf_14 at v
  unfold wX10_kindOf_14
  refine ⟨?_, ?_⟩
  · have h := h.1
    have v := v.1
    intro e1
    have h := h e1
    have v := v e1
    exact jcX10_kindOf_28 hQ _ _ h v
  · have h := h.2
    have v := v.2
    intro e2
    have h := h e2
    have v := v e2
    refine ⟨?_, ?_⟩
    · have h := h.1
      have v := v.1
      intro e3
      have h := h e3
      have v := v e3
      exact jcX10_kindOf_28 hQ _ _ h v
    · have h := h.2
      have v := v.2
      intro e4
      have h := h e4
      have v := v e4
      exact hQ _ _ h v
set_option maxRecDepth 100000 in
set_option maxHeartbeats 4000000 in
theorem jaX10_kindOf_14 {Q Q' : Int32 → kx_S → Prop} (hQ : ∀ y0 y1, Q y0 y1 → Q' y0 y1) : ∀ (l0 : Int32) (σ : kx_S), wX10_kindOf_14 Q l0 σ → vX10_kindOf_14 Q' l0 σ := by
  intro l0 σ h
  unfold wX10_kindOf_14 at h
  unfold vX10_kindOf_14
  refine ⟨?_, ?_⟩
  · have h := h.1
    intro e1
    have h := h e1
    exact jaX10_kindOf_28 hQ _ _ h
  · have h := h.2
    intro e2
    have h := h e2
    refine ⟨?_, ?_⟩
    · have h := h.1
      intro e3
      have h := h e3
      exact jaX10_kindOf_28 hQ _ _ h
    · have h := h.2
      intro e4
      have h := h e4
      exact hQ _ _ h
set_option maxRecDepth 100000 in
set_option maxHeartbeats 4000000 in
theorem jfX10_kindOf_14 {I : kx_S → Prop} (W : fw_ I []) {Q : Int32 → kx_S → Prop} (hQ : ∀ y0 y1, I y1 → Q y0 y1) : ∀ (l0 : Int32) (σ : kx_S), I σ → vX10_kindOf_14 Q l0 σ := by
  intro l0 σ i
  unfold vX10_kindOf_14
  refine ⟨?_, ?_⟩
  · intro e1
    exact jfX10_kindOf_28 (I := I) (fw_sub W (by decide)) hQ _ _ i
  · intro e2
    refine ⟨?_, ?_⟩
    · intro e3
      exact jfX10_kindOf_28 (I := I) (fw_sub W (by decide)) hQ _ _ i
    · intro e4
      exact hQ _ _ i
def vX10_kindOf (l0 : Int32) (σ : kx_S) (Q : Int32 → kx_S → Prop) : Prop := ((l0 < 97 → vX10_kindOf_14 Q l0 σ) ∧ (¬ (l0 < 97) → ((122 < l0 → vX10_kindOf_14 Q l0 σ) ∧ (¬ (122 < l0) → Q 1 σ))))
set_option maxRecDepth 100000 in
set_option maxHeartbeats 4000000 in
theorem jcX10_kindOf {Q Q' Q'' : Int32 → kx_S → Prop} (hQ : ∀ y0 y1, Q y0 y1 → Q' y0 y1 → Q'' y0 y1) : ∀ (l0 : Int32) (σ : kx_S), wX10_kindOf l0 σ Q → vX10_kindOf l0 σ Q' → wX10_kindOf l0 σ Q'' := by
  intro l0 σ h v
  unfold wX10_kindOf at h
  unfold vX10_kindOf at v
  unfold wX10_kindOf
  refine ⟨?_, ?_⟩
  · have h := h.1
    have v := v.1
    intro e1
    have h := h e1
    have v := v e1
    exact jcX10_kindOf_14 hQ _ _ h v
  · have h := h.2
    have v := v.2
    intro e2
    have h := h e2
    have v := v e2
    refine ⟨?_, ?_⟩
    · have h := h.1
      have v := v.1
      intro e3
      have h := h e3
      have v := v e3
      exact jcX10_kindOf_14 hQ _ _ h v
    · have h := h.2
      have v := v.2
      intro e4
      have h := h e4
      have v := v e4
      exact hQ _ _ h v
set_option maxRecDepth 100000 in
set_option maxHeartbeats 4000000 in
theorem jaX10_kindOf {Q Q' : Int32 → kx_S → Prop} (hQ : ∀ y0 y1, Q y0 y1 → Q' y0 y1) : ∀ (l0 : Int32) (σ : kx_S), wX10_kindOf l0 σ Q → vX10_kindOf l0 σ Q' := by
  intro l0 σ h
  unfold wX10_kindOf at h
  unfold vX10_kindOf
  refine ⟨?_, ?_⟩
  · have h := h.1
    intro e1
    have h := h e1
    exact jaX10_kindOf_14 hQ _ _ h
  · have h := h.2
    intro e2
    have h := h e2
    refine ⟨?_, ?_⟩
    · have h := h.1
      intro e3
      have h := h e3
      exact jaX10_kindOf_14 hQ _ _ h
    · have h := h.2
      intro e4
      have h := h e4
      exact hQ _ _ h
set_option maxRecDepth 100000 in
set_option maxHeartbeats 4000000 in
theorem jfX10_kindOf {I : kx_S → Prop} (W : fw_ I []) {Q : Int32 → kx_S → Prop} (hQ : ∀ y0 y1, I y1 → Q y0 y1) : ∀ (l0 : Int32) (σ : kx_S), I σ → vX10_kindOf l0 σ Q := by
  intro l0 σ i
  unfold vX10_kindOf
  refine ⟨?_, ?_⟩
  · intro e1
    exact jfX10_kindOf_14 (I := I) (fw_sub W (by decide)) hQ _ _ i
  · intro e2
    refine ⟨?_, ?_⟩
    · intro e3
      exact jfX10_kindOf_14 (I := I) (fw_sub W (by decide)) hQ _ _ i
    · intro e4
      exact hQ _ _ i
def vX10_byteAt (l0 : Nat) (l1 : Int32) (σ : kx_S) (Q : Int32 → kx_S → Prop) : Prop := ((l1 < 0 → Q (-1) σ) ∧ (¬ (l1 < 0) → xt σ l0 = 12 → (((xi σ 193 l0) ≤ l1 → Q (-1) σ) ∧ (¬ ((xi σ 193 l0) ≤ l1) → ∀ a4, xr σ 192 l0 = some a4 → xt σ a4 = 11 → ∀ a7, xr σ 176 a4 = some a7 → xt σ a7 = 20 → (((nI (xn σ a7)) ≤ l1 → Q (-1) σ) ∧ (¬ ((nI (xn σ a7)) ≤ l1) → ∀ a11, xr σ 192 l0 = some a11 → xt σ a11 = 11 → ∀ a14, xr σ 176 a11 = some a14 → xt σ a14 = 20 → vp_in l1 (xn σ a14) → Q (xai σ a14 l1.toNatClampNeg) σ))))))
set_option maxRecDepth 100000 in
set_option maxHeartbeats 4000000 in
theorem jcX10_byteAt {Q Q' Q'' : Int32 → kx_S → Prop} (hQ : ∀ y0 y1, Q y0 y1 → Q' y0 y1 → Q'' y0 y1) : ∀ (l0 : Nat) (l1 : Int32) (σ : kx_S), wX10_byteAt l0 l1 σ Q → vX10_byteAt l0 l1 σ Q' → wX10_byteAt l0 l1 σ Q'' := by
  intro l0 l1 σ h v
  unfold wX10_byteAt at h
  unfold vX10_byteAt at v
  unfold wX10_byteAt
  refine ⟨?_, ?_⟩
  · have h := h.1
    have v := v.1
    intro e1
    have h := h e1
    have v := v e1
    exact hQ _ _ h v
  · have h := h.2
    have v := v.2
    intro e2
    have h := h e2
    have v := v e2
    refine ⟨h.1, ?_⟩
    have v := v h.1
    have h := h.2
    refine ⟨?_, ?_⟩
    · have h := h.1
      have v := v.1
      intro e4
      have h := h e4
      have v := v e4
      exact hQ _ _ h v
    · have h := h.2
      have v := v.2
      intro e5
      have h := h e5
      have v := v e5
      obtain ⟨a4, e6, h⟩ := h
      refine ⟨a4, e6, ?_⟩
      have v := v a4 e6
      refine ⟨h.1, ?_⟩
      have v := v h.1
      have h := h.2
      obtain ⟨a7, e8, h⟩ := h
      refine ⟨a7, e8, ?_⟩
      have v := v a7 e8
      refine ⟨h.1, ?_⟩
      have v := v h.1
      have h := h.2
      refine ⟨?_, ?_⟩
      · have h := h.1
        have v := v.1
        intro e10
        have h := h e10
        have v := v e10
        exact hQ _ _ h v
      · have h := h.2
        have v := v.2
        intro e11
        have h := h e11
        have v := v e11
        obtain ⟨a11, e12, h⟩ := h
        refine ⟨a11, e12, ?_⟩
        have v := v a11 e12
        refine ⟨h.1, ?_⟩
        have v := v h.1
        have h := h.2
        obtain ⟨a14, e14, h⟩ := h
        refine ⟨a14, e14, ?_⟩
        have v := v a14 e14
        refine ⟨h.1, ?_⟩
        have v := v h.1
        have h := h.2
        refine ⟨h.1, ?_⟩
        have v := v h.1
        have h := h.2
        exact hQ _ _ h v
set_option maxRecDepth 100000 in
set_option maxHeartbeats 4000000 in
theorem jaX10_byteAt {Q Q' : Int32 → kx_S → Prop} (hQ : ∀ y0 y1, Q y0 y1 → Q' y0 y1) : ∀ (l0 : Nat) (l1 : Int32) (σ : kx_S), wX10_byteAt l0 l1 σ Q → vX10_byteAt l0 l1 σ Q' := by
  intro l0 l1 σ h
  unfold wX10_byteAt at h
  unfold vX10_byteAt
  refine ⟨?_, ?_⟩
  · have h := h.1
    intro e1
    have h := h e1
    exact hQ _ _ h
  · have h := h.2
    intro e2
    have h := h e2
    intro e3
    have h := h.2
    refine ⟨?_, ?_⟩
    · have h := h.1
      intro e4
      have h := h e4
      exact hQ _ _ h
    · have h := h.2
      intro e5
      have h := h e5
      obtain ⟨a4', e6, h⟩ := h
      intro a4 e7
      have x9 : a4' = a4 := Option.some.inj (e6.symm.trans e7)
      rw [x9] at h
      intro e8
      have h := h.2
      obtain ⟨a7', e9, h⟩ := h
      intro a7 e10
      have x9 : a7' = a7 := Option.some.inj (e9.symm.trans e10)
      rw [x9] at h
      intro e11
      have h := h.2
      refine ⟨?_, ?_⟩
      · have h := h.1
        intro e12
        have h := h e12
        exact hQ _ _ h
      · have h := h.2
        intro e13
        have h := h e13
        obtain ⟨a11', e14, h⟩ := h
        intro a11 e15
        have x9 : a11' = a11 := Option.some.inj (e14.symm.trans e15)
        rw [x9] at h
        intro e16
        have h := h.2
        obtain ⟨a14', e17, h⟩ := h
        intro a14 e18
        have x9 : a14' = a14 := Option.some.inj (e17.symm.trans e18)
        rw [x9] at h
        intro e19
        have h := h.2
        intro e20
        have h := h.2
        exact hQ _ _ h
set_option maxRecDepth 100000 in
set_option maxHeartbeats 4000000 in
theorem jfX10_byteAt {I : kx_S → Prop} (W : fw_ I []) {Q : Int32 → kx_S → Prop} (hQ : ∀ y0 y1, I y1 → Q y0 y1) : ∀ (l0 : Nat) (l1 : Int32) (σ : kx_S), I σ → vX10_byteAt l0 l1 σ Q := by
  intro l0 l1 σ i
  unfold vX10_byteAt
  refine ⟨?_, ?_⟩
  · intro e1
    exact hQ _ _ i
  · intro e2
    intro e3
    refine ⟨?_, ?_⟩
    · intro e4
      exact hQ _ _ i
    · intro e5
      intro a4 e6
      intro e7
      intro a7 e8
      intro e9
      refine ⟨?_, ?_⟩
      · intro e10
        exact hQ _ _ i
      · intro e11
        intro a11 e12
        intro e13
        intro a14 e14
        intro e15
        intro e16
        exact hQ _ _ i
def vX10_endOfRow_2 (Q : Int32 → kx_S → Prop) : Nat → Nat → Int32 → Int32 → kx_S → Prop
  | 0, _, _, _, _ => True
  | n + 1, l0, l2, l3, σ => xt σ l0 = 12 → (((xi σ 193 l0) ≤ l3 → Q l3 σ) ∧ (¬ ((xi σ 193 l0) ≤ l3) → vX10_byteAt l0 l3 σ (fun r4 σ3 => vX10_kindOf r4 σ3 (fun r6 σ5 => ((¬ r6 = l2 → Q l3 σ5) ∧ (r6 = l2 → ∀ v8 : Int32, v8 = l3 + 1 → vX10_endOfRow_2 Q n l0 l2 v8 σ5))))))
set_option maxRecDepth 100000 in
set_option maxHeartbeats 4000000 in
theorem jcX10_endOfRow_2 {Q Q' Q'' : Int32 → kx_S → Prop} (hQ : ∀ y0 y1, Q y0 y1 → Q' y0 y1 → Q'' y0 y1) : ∀ (n : Nat) (l0 : Nat) (l2 : Int32) (l3 : Int32) (σ : kx_S), wX10_endOfRow_2 Q n l0 l2 l3 σ → vX10_endOfRow_2 Q' n l0 l2 l3 σ → wX10_endOfRow_2 Q'' n l0 l2 l3 σ := by
  intro n
  induction n with
  | zero => intro l0 l2 l3 σ h; exact h.elim
  | succ n ih =>
    intro l0 l2 l3 σ h v
    unfold wX10_endOfRow_2 at h
    unfold vX10_endOfRow_2 at v
    unfold wX10_endOfRow_2
    refine ⟨h.1, ?_⟩
    have v := v h.1
    have h := h.2
    refine ⟨?_, ?_⟩
    · have h := h.1
      have v := v.1
      intro e2
      have h := h e2
      have v := v e2
      exact hQ _ _ h v
    · have h := h.2
      have v := v.2
      intro e3
      have h := h e3
      have v := v e3
      refine jcX10_byteAt ?_ _ _ _ h v
      intro r4 σ3 h v
      refine jcX10_kindOf ?_ _ _ h v
      intro r6 σ5 h v
      refine ⟨?_, ?_⟩
      · have h := h.1
        have v := v.1
        intro e4
        have h := h e4
        have v := v e4
        exact hQ _ _ h v
      · have h := h.2
        have v := v.2
        intro e5
        have h := h e5
        have v := v e5
        intro v8 e6
        have h := h v8 e6
        have v := v v8 e6
        exact ih _ _ _ _ h v
set_option maxRecDepth 100000 in
set_option maxHeartbeats 4000000 in
theorem jaX10_endOfRow_2 {Q Q' : Int32 → kx_S → Prop} (hQ : ∀ y0 y1, Q y0 y1 → Q' y0 y1) : ∀ (n m : Nat) (l0 : Nat) (l2 : Int32) (l3 : Int32) (σ : kx_S), wX10_endOfRow_2 Q n l0 l2 l3 σ → vX10_endOfRow_2 Q' m l0 l2 l3 σ := by
  intro n
  induction n with
  | zero => intro m l0 l2 l3 σ h; exact h.elim
  | succ n ih =>
    intro m l0 l2 l3 σ h
    cases m with
    | zero => exact trivial
    | succ m =>
      unfold wX10_endOfRow_2 at h
      unfold vX10_endOfRow_2
      intro e1
      have h := h.2
      refine ⟨?_, ?_⟩
      · have h := h.1
        intro e2
        have h := h e2
        exact hQ _ _ h
      · have h := h.2
        intro e3
        have h := h e3
        refine jaX10_byteAt ?_ _ _ _ h
        intro r4 σ3 h
        refine jaX10_kindOf ?_ _ _ h
        intro r6 σ5 h
        refine ⟨?_, ?_⟩
        · have h := h.1
          intro e4
          have h := h e4
          exact hQ _ _ h
        · have h := h.2
          intro e5
          have h := h e5
          intro v8 e6
          have h := h v8 e6
          exact ih m _ _ _ _ h
set_option maxRecDepth 100000 in
set_option maxHeartbeats 4000000 in
theorem jfX10_endOfRow_2 {I : kx_S → Prop} (W : fw_ I []) {Q : Int32 → kx_S → Prop} (hQ : ∀ y0 y1, I y1 → Q y0 y1) : ∀ (n : Nat) (l0 : Nat) (l2 : Int32) (l3 : Int32) (σ : kx_S), I σ → vX10_endOfRow_2 Q n l0 l2 l3 σ := by
  intro n
  induction n with
  | zero => intro l0 l2 l3 σ i; exact trivial
  | succ n ih =>
    intro l0 l2 l3 σ i
    unfold vX10_endOfRow_2
    intro e1
    refine ⟨?_, ?_⟩
    · intro e2
      exact hQ _ _ i
    · intro e3
      refine jfX10_byteAt (I := I) (fw_sub W (by decide)) ?_ _ _ _ i
      intro r4 σ3 iσ3
      refine jfX10_kindOf (I := I) (fw_sub W (by decide)) ?_ _ _ iσ3
      intro r6 σ5 iσ5
      refine ⟨?_, ?_⟩
      · intro e4
        exact hQ _ _ iσ5
      · intro e5
        intro v8 e6
        exact ih _ _ _ _ iσ5
def vX10_endOfRow (l0 : Nat) (l1 : Int32) (l2 : Int32) (σ : kx_S) (Q : Int32 → kx_S → Prop) : Prop := ∀ j, vX10_endOfRow_2 Q j l0 l2 l1 σ
set_option maxRecDepth 100000 in
set_option maxHeartbeats 4000000 in
theorem jcX10_endOfRow {Q Q' Q'' : Int32 → kx_S → Prop} (hQ : ∀ y0 y1, Q y0 y1 → Q' y0 y1 → Q'' y0 y1) : ∀ (l0 : Nat) (l1 : Int32) (l2 : Int32) (σ : kx_S), wX10_endOfRow l0 l1 l2 σ Q → vX10_endOfRow l0 l1 l2 σ Q' → wX10_endOfRow l0 l1 l2 σ Q'' := by
  intro l0 l1 l2 σ h v
  unfold wX10_endOfRow at h
  unfold vX10_endOfRow at v
  unfold wX10_endOfRow
  obtain ⟨j, h⟩ := h
  refine ⟨j, ?_⟩
  have v := v j
  exact jcX10_endOfRow_2 hQ _ _ _ _ _ h v
set_option maxRecDepth 100000 in
set_option maxHeartbeats 4000000 in
theorem jaX10_endOfRow {Q Q' : Int32 → kx_S → Prop} (hQ : ∀ y0 y1, Q y0 y1 → Q' y0 y1) : ∀ (l0 : Nat) (l1 : Int32) (l2 : Int32) (σ : kx_S), wX10_endOfRow l0 l1 l2 σ Q → vX10_endOfRow l0 l1 l2 σ Q' := by
  intro l0 l1 l2 σ h
  unfold wX10_endOfRow at h
  unfold vX10_endOfRow
  obtain ⟨j, h⟩ := h
  intro j9
  exact jaX10_endOfRow_2 hQ _ j9 _ _ _ _ h
set_option maxRecDepth 100000 in
set_option maxHeartbeats 4000000 in
theorem jfX10_endOfRow {I : kx_S → Prop} (W : fw_ I []) {Q : Int32 → kx_S → Prop} (hQ : ∀ y0 y1, I y1 → Q y0 y1) : ∀ (l0 : Nat) (l1 : Int32) (l2 : Int32) (σ : kx_S), I σ → vX10_endOfRow l0 l1 l2 σ Q := by
  intro l0 l1 l2 σ i
  unfold vX10_endOfRow
  intro j
  exact jfX10_endOfRow_2 (I := I) (fw_sub W (by decide)) hQ _ _ _ _ _ i
def vX10_advance_44 (k80 : Nat → kx_S → Prop) (Q : kx_S → Prop) (l0 : Nat) (σ : kx_S) : Prop := xt σ l0 = 12 → vX10_endOfRow l0 (xi σ 195 l0) (xi σ 196 l0) σ (fun r3 σ2 => xt σ2 l0 = 12 → ∀ σ5, σ5 = xsi σ2 194 l0 r3 → k80 l0 σ5)
set_option maxRecDepth 100000 in
set_option maxHeartbeats 4000000 in
theorem jcX10_advance_44 {k80 k80' k80'' : Nat → kx_S → Prop} (hk80 : ∀ y0 y1, k80 y0 y1 → k80' y0 y1 → k80'' y0 y1) {Q Q' Q'' : kx_S → Prop} (hQ : ∀ y0, Q y0 → Q' y0 → Q'' y0) : ∀ (l0 : Nat) (σ : kx_S), wX10_advance_44 k80 Q l0 σ → vX10_advance_44 k80' Q' l0 σ → wX10_advance_44 k80'' Q'' l0 σ := by
  intro l0 σ h v
  unfold wX10_advance_44 at h
  unfold vX10_advance_44 at v
  unfold wX10_advance_44
  refine ⟨h.1, ?_⟩
  have v := v h.1
  have h := h.2
  refine jcX10_endOfRow ?_ _ _ _ _ h v
  intro r3 σ2 h v
  refine ⟨h.1, ?_⟩
  have v := v h.1
  have h := h.2
  intro σ5 e3
  have h := h σ5 e3
  have v := v σ5 e3
  exact hk80 _ _ h v
set_option maxRecDepth 100000 in
set_option maxHeartbeats 4000000 in
theorem jaX10_advance_44 {k80 k80' : Nat → kx_S → Prop} (hk80 : ∀ y0 y1, k80 y0 y1 → k80' y0 y1) {Q Q' : kx_S → Prop} (hQ : ∀ y0, Q y0 → Q' y0) : ∀ (l0 : Nat) (σ : kx_S), wX10_advance_44 k80 Q l0 σ → vX10_advance_44 k80' Q' l0 σ := by
  intro l0 σ h
  unfold wX10_advance_44 at h
  unfold vX10_advance_44
  intro e1
  have h := h.2
  refine jaX10_endOfRow ?_ _ _ _ _ h
  intro r3 σ2 h
  intro e2
  have h := h.2
  intro σ5 e3
  have h := h σ5 e3
  exact hk80 _ _ h
set_option maxRecDepth 100000 in
set_option maxHeartbeats 4000000 in
theorem jfX10_advance_44 {I : kx_S → Prop} (W : fw_ I [194]) {k80 : Nat → kx_S → Prop} (hk80 : ∀ y0 y1, I y1 → k80 y0 y1) {Q : kx_S → Prop} (hQ : ∀ y0, I y0 → Q y0) : ∀ (l0 : Nat) (σ : kx_S), I σ → vX10_advance_44 k80 Q l0 σ := by
  intro l0 σ i
  unfold vX10_advance_44
  intro e1
  refine jfX10_endOfRow (I := I) (fw_sub W (by decide)) ?_ _ _ _ _ i
  intro r3 σ2 iσ2
  intro e2
  intro σ5 e3
  have iσ5 : I σ5 := by rw [e3]; exact ((W _ iσ2).1 194 (by decide)).1 _ _
  exact hk80 _ _ iσ5
def vX10_advance_80 (Q : kx_S → Prop) (l0 : Nat) (σ : kx_S) : Prop := xt σ l0 = 12 → ((¬ (xi σ 196 l0) = 2 → Q σ) ∧ ((xi σ 196 l0) = 2 → ((((xi σ 194 l0) - (xi σ 195 l0)) ≤ 6 → Q σ) ∧ (¬ (((xi σ 194 l0) - (xi σ 195 l0)) ≤ 6) → ∀ σ10, σ10 = xsi σ 196 l0 3 → Q σ10))))
set_option maxRecDepth 100000 in
set_option maxHeartbeats 4000000 in
theorem jcX10_advance_80 {Q Q' Q'' : kx_S → Prop} (hQ : ∀ y0, Q y0 → Q' y0 → Q'' y0) : ∀ (l0 : Nat) (σ : kx_S), wX10_advance_80 Q l0 σ → vX10_advance_80 Q' l0 σ → wX10_advance_80 Q'' l0 σ := by
  intro l0 σ h v
  unfold wX10_advance_80 at h
  unfold vX10_advance_80 at v
  unfold wX10_advance_80
  refine ⟨h.1, ?_⟩
  have v := v h.1
  have h := h.2
  refine ⟨?_, ?_⟩
  · have h := h.1
    have v := v.1
    intro e2
    have h := h e2
    have v := v e2
    exact hQ _ h v
  · have h := h.2
    have v := v.2
    intro e3
    have h := h e3
    have v := v e3
    refine ⟨?_, ?_⟩
    · have h := h.1
      have v := v.1
      intro e4
      have h := h e4
      have v := v e4
      exact hQ _ h v
    · have h := h.2
      have v := v.2
      intro e5
      have h := h e5
      have v := v e5
      intro σ10 e6
      have h := h σ10 e6
      have v := v σ10 e6
      exact hQ _ h v
set_option maxRecDepth 100000 in
set_option maxHeartbeats 4000000 in
theorem jaX10_advance_80 {Q Q' : kx_S → Prop} (hQ : ∀ y0, Q y0 → Q' y0) : ∀ (l0 : Nat) (σ : kx_S), wX10_advance_80 Q l0 σ → vX10_advance_80 Q' l0 σ := by
  intro l0 σ h
  unfold wX10_advance_80 at h
  unfold vX10_advance_80
  intro e1
  have h := h.2
  refine ⟨?_, ?_⟩
  · have h := h.1
    intro e2
    have h := h e2
    exact hQ _ h
  · have h := h.2
    intro e3
    have h := h e3
    refine ⟨?_, ?_⟩
    · have h := h.1
      intro e4
      have h := h e4
      exact hQ _ h
    · have h := h.2
      intro e5
      have h := h e5
      intro σ10 e6
      have h := h σ10 e6
      exact hQ _ h
set_option maxRecDepth 100000 in
set_option maxHeartbeats 4000000 in
theorem jfX10_advance_80 {I : kx_S → Prop} (W : fw_ I [196]) {Q : kx_S → Prop} (hQ : ∀ y0, I y0 → Q y0) : ∀ (l0 : Nat) (σ : kx_S), I σ → vX10_advance_80 Q l0 σ := by
  intro l0 σ i
  unfold vX10_advance_80
  intro e1
  refine ⟨?_, ?_⟩
  · intro e2
    exact hQ _ i
  · intro e3
    refine ⟨?_, ?_⟩
    · intro e4
      exact hQ _ i
    · intro e5
      intro σ10 e6
      have iσ10 : I σ10 := by rw [e6]; exact ((W _ i).1 196 (by decide)).1 _ _
      exact hQ _ iσ10
def vX10_advance (l0 : Nat) (σ : kx_S) (Q : kx_S → Prop) : Prop := xt σ l0 = 12 → vX10_endOfRow l0 (xi σ 194 l0) 5 σ (fun r14 σ13 => xt σ13 l0 = 12 → ∀ σ16, σ16 = xsi σ13 195 l0 r14 → vX10_byteAt l0 (xi σ16 195 l0) σ16 (fun r19 σ18 => vX10_kindOf r19 σ18 (fun r21 σ20 => xt σ20 l0 = 12 → ∀ σ23, σ23 = xsi σ20 196 l0 r21 → (((xi σ23 196 l0) = 1 → vX10_advance_44 (vX10_advance_80 Q) Q l0 σ23) ∧ (¬ ((xi σ23 196 l0) = 1) → ((¬ (xi σ23 196 l0) = 2 → ∀ v27, v27 = (if (xi σ23 193 l0) < ((xi σ23 195 l0) + 1) then (xi σ23 193 l0) else ((xi σ23 195 l0) + 1)) → ∀ σ28, σ28 = xsi σ23 194 l0 v27 → vX10_advance_80 Q l0 σ28) ∧ ((xi σ23 196 l0) = 2 → vX10_advance_44 (vX10_advance_80 Q) Q l0 σ23)))))))
set_option maxRecDepth 100000 in
set_option maxHeartbeats 4000000 in
theorem jcX10_advance {Q Q' Q'' : kx_S → Prop} (hQ : ∀ y0, Q y0 → Q' y0 → Q'' y0) : ∀ (l0 : Nat) (σ : kx_S), wX10_advance l0 σ Q → vX10_advance l0 σ Q' → wX10_advance l0 σ Q'' := by
  intro l0 σ h v
  unfold wX10_advance at h
  unfold vX10_advance at v
  unfold wX10_advance
  refine ⟨h.1, ?_⟩
  have v := v h.1
  have h := h.2
  refine jcX10_endOfRow ?_ _ _ _ _ h v
  intro r14 σ13 h v
  refine ⟨h.1, ?_⟩
  have v := v h.1
  have h := h.2
  intro σ16 e3
  have h := h σ16 e3
  have v := v σ16 e3
  refine jcX10_byteAt ?_ _ _ _ h v
  intro r19 σ18 h v
  refine jcX10_kindOf ?_ _ _ h v
  intro r21 σ20 h v
  refine ⟨h.1, ?_⟩
  have v := v h.1
  have h := h.2
  intro σ23 e5
  have h := h σ23 e5
  have v := v σ23 e5
  refine ⟨?_, ?_⟩
  · have h := h.1
    have v := v.1
    intro e6
    have h := h e6
    have v := v e6
    exact jcX10_advance_44 (k80 := wX10_advance_80 Q) (k80' := vX10_advance_80 Q') (k80'' := wX10_advance_80 Q'') (fun _ _ h v => jcX10_advance_80 hQ _ _ h v) hQ _ _ h v
  · have h := h.2
    have v := v.2
    intro e7
    have h := h e7
    have v := v e7
    refine ⟨?_, ?_⟩
    · have h := h.1
      have v := v.1
      intro e8
      have h := h e8
      have v := v e8
      intro v27 e9
      have h := h v27 e9
      have v := v v27 e9
      intro σ28 e10
      have h := h σ28 e10
      have v := v σ28 e10
      exact jcX10_advance_80 hQ _ _ h v
    · have h := h.2
      have v := v.2
      intro e11
      have h := h e11
      have v := v e11
      exact jcX10_advance_44 (k80 := wX10_advance_80 Q) (k80' := vX10_advance_80 Q') (k80'' := wX10_advance_80 Q'') (fun _ _ h v => jcX10_advance_80 hQ _ _ h v) hQ _ _ h v
set_option maxRecDepth 100000 in
set_option maxHeartbeats 4000000 in
theorem jaX10_advance {Q Q' : kx_S → Prop} (hQ : ∀ y0, Q y0 → Q' y0) : ∀ (l0 : Nat) (σ : kx_S), wX10_advance l0 σ Q → vX10_advance l0 σ Q' := by
  intro l0 σ h
  unfold wX10_advance at h
  unfold vX10_advance
  intro e1
  have h := h.2
  refine jaX10_endOfRow ?_ _ _ _ _ h
  intro r14 σ13 h
  intro e2
  have h := h.2
  intro σ16 e3
  have h := h σ16 e3
  refine jaX10_byteAt ?_ _ _ _ h
  intro r19 σ18 h
  refine jaX10_kindOf ?_ _ _ h
  intro r21 σ20 h
  intro e4
  have h := h.2
  intro σ23 e5
  have h := h σ23 e5
  refine ⟨?_, ?_⟩
  · have h := h.1
    intro e6
    have h := h e6
    exact jaX10_advance_44 (k80 := wX10_advance_80 Q) (k80' := vX10_advance_80 Q') (fun _ _ h => jaX10_advance_80 hQ _ _ h) hQ _ _ h
  · have h := h.2
    intro e7
    have h := h e7
    refine ⟨?_, ?_⟩
    · have h := h.1
      intro e8
      have h := h e8
      intro v27 e9
      have h := h v27 e9
      intro σ28 e10
      have h := h σ28 e10
      exact jaX10_advance_80 hQ _ _ h
    · have h := h.2
      intro e11
      have h := h e11
      exact jaX10_advance_44 (k80 := wX10_advance_80 Q) (k80' := vX10_advance_80 Q') (fun _ _ h => jaX10_advance_80 hQ _ _ h) hQ _ _ h
set_option maxRecDepth 100000 in
set_option maxHeartbeats 4000000 in
theorem jfX10_advance {I : kx_S → Prop} (W : fw_ I [194, 195, 196]) {Q : kx_S → Prop} (hQ : ∀ y0, I y0 → Q y0) : ∀ (l0 : Nat) (σ : kx_S), I σ → vX10_advance l0 σ Q := by
  intro l0 σ i
  unfold vX10_advance
  intro e1
  refine jfX10_endOfRow (I := I) (fw_sub W (by decide)) ?_ _ _ _ _ i
  intro r14 σ13 iσ13
  intro e2
  intro σ16 e3
  have iσ16 : I σ16 := by rw [e3]; exact ((W _ iσ13).1 195 (by decide)).1 _ _
  refine jfX10_byteAt (I := I) (fw_sub W (by decide)) ?_ _ _ _ iσ16
  intro r19 σ18 iσ18
  refine jfX10_kindOf (I := I) (fw_sub W (by decide)) ?_ _ _ iσ18
  intro r21 σ20 iσ20
  intro e4
  intro σ23 e5
  have iσ23 : I σ23 := by rw [e5]; exact ((W _ iσ20).1 196 (by decide)).1 _ _
  refine ⟨?_, ?_⟩
  · intro e6
    exact jfX10_advance_44 (I := I) (fw_sub W (by decide)) (k80 := vX10_advance_80 Q) (fun _ _ i => jfX10_advance_80 (I := I) (fw_sub W (by decide)) hQ _ _ i) hQ _ _ iσ23
  · intro e7
    refine ⟨?_, ?_⟩
    · intro e8
      intro v27 e9
      intro σ28 e10
      have iσ28 : I σ28 := by rw [e10]; exact ((W _ iσ23).1 194 (by decide)).1 _ _
      exact jfX10_advance_80 (I := I) (fw_sub W (by decide)) hQ _ _ iσ28
    · intro e11
      exact jfX10_advance_44 (I := I) (fw_sub W (by decide)) (k80 := vX10_advance_80 Q) (fun _ _ i => jfX10_advance_80 (I := I) (fw_sub W (by decide)) hQ _ _ i) hQ _ _ iσ23
def vX10_openText (l0 : Nat) (l1 : Int32) (σ : kx_S) (Q : kx_S → Prop) : Prop := xt σ l0 = 12 → ∀ σ2, σ2 = xsi σ 193 l0 l1 → ∀ σ4, σ4 = xsi σ2 194 l0 0 → vX10_advance l0 σ4 (fun σ6 => Q σ6)
set_option maxRecDepth 100000 in
set_option maxHeartbeats 4000000 in
theorem jcX10_openText {Q Q' Q'' : kx_S → Prop} (hQ : ∀ y0, Q y0 → Q' y0 → Q'' y0) : ∀ (l0 : Nat) (l1 : Int32) (σ : kx_S), wX10_openText l0 l1 σ Q → vX10_openText l0 l1 σ Q' → wX10_openText l0 l1 σ Q'' := by
  intro l0 l1 σ h v
  unfold wX10_openText at h
  unfold vX10_openText at v
  unfold wX10_openText
  refine ⟨h.1, ?_⟩
  have v := v h.1
  have h := h.2
  intro σ2 e2
  have h := h σ2 e2
  have v := v σ2 e2
  intro σ4 e3
  have h := h σ4 e3
  have v := v σ4 e3
  refine jcX10_advance ?_ _ _ h v
  intro σ6 h v
  exact hQ _ h v
set_option maxRecDepth 100000 in
set_option maxHeartbeats 4000000 in
theorem jaX10_openText {Q Q' : kx_S → Prop} (hQ : ∀ y0, Q y0 → Q' y0) : ∀ (l0 : Nat) (l1 : Int32) (σ : kx_S), wX10_openText l0 l1 σ Q → vX10_openText l0 l1 σ Q' := by
  intro l0 l1 σ h
  unfold wX10_openText at h
  unfold vX10_openText
  intro e1
  have h := h.2
  intro σ2 e2
  have h := h σ2 e2
  intro σ4 e3
  have h := h σ4 e3
  refine jaX10_advance ?_ _ _ h
  intro σ6 h
  exact hQ _ h
set_option maxRecDepth 100000 in
set_option maxHeartbeats 4000000 in
theorem jfX10_openText {I : kx_S → Prop} (W : fw_ I [193, 194, 195, 196]) {Q : kx_S → Prop} (hQ : ∀ y0, I y0 → Q y0) : ∀ (l0 : Nat) (l1 : Int32) (σ : kx_S), I σ → vX10_openText l0 l1 σ Q := by
  intro l0 l1 σ i
  unfold vX10_openText
  intro e1
  intro σ2 e2
  have iσ2 : I σ2 := by rw [e2]; exact ((W _ i).1 193 (by decide)).1 _ _
  intro σ4 e3
  have iσ4 : I σ4 := by rw [e3]; exact ((W _ iσ2).1 194 (by decide)).1 _ _
  refine jfX10_advance (I := I) (fw_sub W (by decide)) ?_ _ _ iσ4
  intro σ6 iσ6
  exact hQ _ iσ6
def vX10_isWord_28 (Q : Int32 → kx_S → Prop) : Nat → Nat → Nat → Int32 → kx_S → Prop
  | 0, _, _, _, _ => True
  | n + 1, l0, l1, l2, σ => l1 < 12 → (((nI (ks_len.getD l1 0)) ≤ l2 → Q 1 σ) ∧ (¬ ((nI (ks_len.getD l1 0)) ≤ l2) → xt σ l0 = 12 → vX10_byteAt l0 ((xi σ 195 l0) + l2) σ (fun r5 σ4 => l1 < 12 → vp_in l2 (ks_len.getD l1 0) → ((r5 = ((ks_byt.getD l1 []).getD l2.toNatClampNeg 0) → ∀ v9 : Int32, v9 = l2 + 1 → vX10_isWord_28 Q n l0 l1 v9 σ4) ∧ (¬ (r5 = ((ks_byt.getD l1 []).getD l2.toNatClampNeg 0)) → Q 0 σ4)))))
set_option maxRecDepth 100000 in
set_option maxHeartbeats 4000000 in
theorem jcX10_isWord_28 {Q Q' Q'' : Int32 → kx_S → Prop} (hQ : ∀ y0 y1, Q y0 y1 → Q' y0 y1 → Q'' y0 y1) : ∀ (n : Nat) (l0 : Nat) (l1 : Nat) (l2 : Int32) (σ : kx_S), wX10_isWord_28 Q n l0 l1 l2 σ → vX10_isWord_28 Q' n l0 l1 l2 σ → wX10_isWord_28 Q'' n l0 l1 l2 σ := by
  intro n
  induction n with
  | zero => intro l0 l1 l2 σ h; exact h.elim
  | succ n ih =>
    intro l0 l1 l2 σ h v
    unfold wX10_isWord_28 at h
    unfold vX10_isWord_28 at v
    unfold wX10_isWord_28
    refine ⟨h.1, ?_⟩
    have v := v h.1
    have h := h.2
    refine ⟨?_, ?_⟩
    · have h := h.1
      have v := v.1
      intro e2
      have h := h e2
      have v := v e2
      exact hQ _ _ h v
    · have h := h.2
      have v := v.2
      intro e3
      have h := h e3
      have v := v e3
      refine ⟨h.1, ?_⟩
      have v := v h.1
      have h := h.2
      refine jcX10_byteAt ?_ _ _ _ h v
      intro r5 σ4 h v
      refine ⟨h.1, ?_⟩
      have v := v h.1
      have h := h.2
      refine ⟨h.1, ?_⟩
      have v := v h.1
      have h := h.2
      refine ⟨?_, ?_⟩
      · have h := h.1
        have v := v.1
        intro e7
        have h := h e7
        have v := v e7
        intro v9 e8
        have h := h v9 e8
        have v := v v9 e8
        exact ih _ _ _ _ h v
      · have h := h.2
        have v := v.2
        intro e9
        have h := h e9
        have v := v e9
        exact hQ _ _ h v
set_option maxRecDepth 100000 in
set_option maxHeartbeats 4000000 in
theorem jaX10_isWord_28 {Q Q' : Int32 → kx_S → Prop} (hQ : ∀ y0 y1, Q y0 y1 → Q' y0 y1) : ∀ (n m : Nat) (l0 : Nat) (l1 : Nat) (l2 : Int32) (σ : kx_S), wX10_isWord_28 Q n l0 l1 l2 σ → vX10_isWord_28 Q' m l0 l1 l2 σ := by
  intro n
  induction n with
  | zero => intro m l0 l1 l2 σ h; exact h.elim
  | succ n ih =>
    intro m l0 l1 l2 σ h
    cases m with
    | zero => exact trivial
    | succ m =>
      unfold wX10_isWord_28 at h
      unfold vX10_isWord_28
      intro e1
      have h := h.2
      refine ⟨?_, ?_⟩
      · have h := h.1
        intro e2
        have h := h e2
        exact hQ _ _ h
      · have h := h.2
        intro e3
        have h := h e3
        intro e4
        have h := h.2
        refine jaX10_byteAt ?_ _ _ _ h
        intro r5 σ4 h
        intro e5
        have h := h.2
        intro e6
        have h := h.2
        refine ⟨?_, ?_⟩
        · have h := h.1
          intro e7
          have h := h e7
          intro v9 e8
          have h := h v9 e8
          exact ih m _ _ _ _ h
        · have h := h.2
          intro e9
          have h := h e9
          exact hQ _ _ h
set_option maxRecDepth 100000 in
set_option maxHeartbeats 4000000 in
theorem jfX10_isWord_28 {I : kx_S → Prop} (W : fw_ I []) {Q : Int32 → kx_S → Prop} (hQ : ∀ y0 y1, I y1 → Q y0 y1) : ∀ (n : Nat) (l0 : Nat) (l1 : Nat) (l2 : Int32) (σ : kx_S), I σ → vX10_isWord_28 Q n l0 l1 l2 σ := by
  intro n
  induction n with
  | zero => intro l0 l1 l2 σ i; exact trivial
  | succ n ih =>
    intro l0 l1 l2 σ i
    unfold vX10_isWord_28
    intro e1
    refine ⟨?_, ?_⟩
    · intro e2
      exact hQ _ _ i
    · intro e3
      intro e4
      refine jfX10_byteAt (I := I) (fw_sub W (by decide)) ?_ _ _ _ i
      intro r5 σ4 iσ4
      intro e5
      intro e6
      refine ⟨?_, ?_⟩
      · intro e7
        intro v9 e8
        exact ih _ _ _ _ iσ4
      · intro e9
        exact hQ _ _ iσ4

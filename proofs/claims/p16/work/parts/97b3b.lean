def vX10_isWord (l0 : Nat) (l1 : Nat) (σ : kx_S) (Q : Int32 → kx_S → Prop) : Prop := xt σ l0 = 12 → ((¬ (xi σ 196 l0) = 1 → Q 0 σ) ∧ ((xi σ 196 l0) = 1 → l1 < 12 → ((((xi σ 194 l0) - (xi σ 195 l0)) = (nI (ks_len.getD l1 0)) → ∀ j, vX10_isWord_28 Q j l0 l1 0 σ) ∧ (¬ (((xi σ 194 l0) - (xi σ 195 l0)) = (nI (ks_len.getD l1 0))) → Q 0 σ))))
set_option maxRecDepth 100000 in
set_option maxHeartbeats 4000000 in
theorem jcX10_isWord {Q Q' Q'' : Int32 → kx_S → Prop} (hQ : ∀ y0 y1, Q y0 y1 → Q' y0 y1 → Q'' y0 y1) : ∀ (l0 : Nat) (l1 : Nat) (σ : kx_S), wX10_isWord l0 l1 σ Q → vX10_isWord l0 l1 σ Q' → wX10_isWord l0 l1 σ Q'' := by
  intro l0 l1 σ h v
  unfold wX10_isWord at h
  unfold vX10_isWord at v
  unfold wX10_isWord
  refine ⟨h.1, ?_⟩
  have v := v h.1
  have h := h.2
  refine ⟨?_, ?_⟩
  · have h := h.1
    have v := v.1
    intro e2
    have h := h e2
    have v := v e2
    exact hQ _ _ h v
  · have h := h.2
    have v := v.2
    intro e3
    have h := h e3
    have v := v e3
    refine ⟨h.1, ?_⟩
    have v := v h.1
    have h := h.2
    refine ⟨?_, ?_⟩
    · have h := h.1
      have v := v.1
      intro e5
      have h := h e5
      have v := v e5
      obtain ⟨j, h⟩ := h
      refine ⟨j, ?_⟩
      have v := v j
      exact jcX10_isWord_28 hQ _ _ _ _ _ h v
    · have h := h.2
      have v := v.2
      intro e6
      have h := h e6
      have v := v e6
      exact hQ _ _ h v
set_option maxRecDepth 100000 in
set_option maxHeartbeats 4000000 in
theorem jaX10_isWord {Q Q' : Int32 → kx_S → Prop} (hQ : ∀ y0 y1, Q y0 y1 → Q' y0 y1) : ∀ (l0 : Nat) (l1 : Nat) (σ : kx_S), wX10_isWord l0 l1 σ Q → vX10_isWord l0 l1 σ Q' := by
  intro l0 l1 σ h
  unfold wX10_isWord at h
  unfold vX10_isWord
  intro e1
  have h := h.2
  refine ⟨?_, ?_⟩
  · have h := h.1
    intro e2
    have h := h e2
    exact hQ _ _ h
  · have h := h.2
    intro e3
    have h := h e3
    intro e4
    have h := h.2
    refine ⟨?_, ?_⟩
    · have h := h.1
      intro e5
      have h := h e5
      obtain ⟨j, h⟩ := h
      intro j9
      exact jaX10_isWord_28 hQ _ j9 _ _ _ _ h
    · have h := h.2
      intro e6
      have h := h e6
      exact hQ _ _ h
set_option maxRecDepth 100000 in
set_option maxHeartbeats 4000000 in
theorem jfX10_isWord {I : kx_S → Prop} (W : fw_ I []) {Q : Int32 → kx_S → Prop} (hQ : ∀ y0 y1, I y1 → Q y0 y1) : ∀ (l0 : Nat) (l1 : Nat) (σ : kx_S), I σ → vX10_isWord l0 l1 σ Q := by
  intro l0 l1 σ i
  unfold vX10_isWord
  intro e1
  refine ⟨?_, ?_⟩
  · intro e2
    exact hQ _ _ i
  · intro e3
    intro e4
    refine ⟨?_, ?_⟩
    · intro e5
      intro j
      exact jfX10_isWord_28 (I := I) (fw_sub W (by decide)) hQ _ _ _ _ _ i
    · intro e6
      exact hQ _ _ i
def vX10_numberValue_7 (Q : Int32 → kx_S → Prop) : Nat → Nat → Int32 → Int32 → kx_S → Prop
  | 0, _, _, _, _ => True
  | n + 1, l0, l1, l2, σ => xt σ l0 = 12 → (((xi σ 194 l0) ≤ l2 → Q l1 σ) ∧ (¬ ((xi σ 194 l0) ≤ l2) → vX10_byteAt l0 l2 σ (fun r4 σ3 => ∀ v5, v5 = ((l1 * 10) + r4) - 48 → ∀ v6 : Int32, v6 = l2 + 1 → vX10_numberValue_7 Q n l0 v5 v6 σ3)))
set_option maxRecDepth 100000 in
set_option maxHeartbeats 4000000 in
theorem jcX10_numberValue_7 {Q Q' Q'' : Int32 → kx_S → Prop} (hQ : ∀ y0 y1, Q y0 y1 → Q' y0 y1 → Q'' y0 y1) : ∀ (n : Nat) (l0 : Nat) (l1 : Int32) (l2 : Int32) (σ : kx_S), wX10_numberValue_7 Q n l0 l1 l2 σ → vX10_numberValue_7 Q' n l0 l1 l2 σ → wX10_numberValue_7 Q'' n l0 l1 l2 σ := by
  intro n
  induction n with
  | zero => intro l0 l1 l2 σ h; exact h.elim
  | succ n ih =>
    intro l0 l1 l2 σ h v
    unfold wX10_numberValue_7 at h
    unfold vX10_numberValue_7 at v
    unfold wX10_numberValue_7
    refine ⟨h.1, ?_⟩
    have v := v h.1
    have h := h.2
    refine ⟨?_, ?_⟩
    · have h := h.1
      have v := v.1
      intro e2
      have h := h e2
      have v := v e2
      exact hQ _ _ h v
    · have h := h.2
      have v := v.2
      intro e3
      have h := h e3
      have v := v e3
      refine jcX10_byteAt ?_ _ _ _ h v
      intro r4 σ3 h v
      intro v5 e4
      have h := h v5 e4
      have v := v v5 e4
      intro v6 e5
      have h := h v6 e5
      have v := v v6 e5
      exact ih _ _ _ _ h v
set_option maxRecDepth 100000 in
set_option maxHeartbeats 4000000 in
theorem jaX10_numberValue_7 {Q Q' : Int32 → kx_S → Prop} (hQ : ∀ y0 y1, Q y0 y1 → Q' y0 y1) : ∀ (n m : Nat) (l0 : Nat) (l1 : Int32) (l2 : Int32) (σ : kx_S), wX10_numberValue_7 Q n l0 l1 l2 σ → vX10_numberValue_7 Q' m l0 l1 l2 σ := by
  intro n
  induction n with
  | zero => intro m l0 l1 l2 σ h; exact h.elim
  | succ n ih =>
    intro m l0 l1 l2 σ h
    cases m with
    | zero => exact trivial
    | succ m =>
      unfold wX10_numberValue_7 at h
      unfold vX10_numberValue_7
      intro e1
      have h := h.2
      refine ⟨?_, ?_⟩
      · have h := h.1
        intro e2
        have h := h e2
        exact hQ _ _ h
      · have h := h.2
        intro e3
        have h := h e3
        refine jaX10_byteAt ?_ _ _ _ h
        intro r4 σ3 h
        intro v5 e4
        have h := h v5 e4
        intro v6 e5
        have h := h v6 e5
        exact ih m _ _ _ _ h
set_option maxRecDepth 100000 in
set_option maxHeartbeats 4000000 in
theorem jfX10_numberValue_7 {I : kx_S → Prop} (W : fw_ I []) {Q : Int32 → kx_S → Prop} (hQ : ∀ y0 y1, I y1 → Q y0 y1) : ∀ (n : Nat) (l0 : Nat) (l1 : Int32) (l2 : Int32) (σ : kx_S), I σ → vX10_numberValue_7 Q n l0 l1 l2 σ := by
  intro n
  induction n with
  | zero => intro l0 l1 l2 σ i; exact trivial
  | succ n ih =>
    intro l0 l1 l2 σ i
    unfold vX10_numberValue_7
    intro e1
    refine ⟨?_, ?_⟩
    · intro e2
      exact hQ _ _ i
    · intro e3
      refine jfX10_byteAt (I := I) (fw_sub W (by decide)) ?_ _ _ _ i
      intro r4 σ3 iσ3
      intro v5 e4
      intro v6 e5
      exact ih _ _ _ _ iσ3
def vX10_numberValue (l0 : Nat) (σ : kx_S) (Q : Int32 → kx_S → Prop) : Prop := xt σ l0 = 12 → ∀ v8, v8 = xi σ 195 l0 → ∀ j, vX10_numberValue_7 Q j l0 0 v8 σ
set_option maxRecDepth 100000 in
set_option maxHeartbeats 4000000 in
theorem jcX10_numberValue {Q Q' Q'' : Int32 → kx_S → Prop} (hQ : ∀ y0 y1, Q y0 y1 → Q' y0 y1 → Q'' y0 y1) : ∀ (l0 : Nat) (σ : kx_S), wX10_numberValue l0 σ Q → vX10_numberValue l0 σ Q' → wX10_numberValue l0 σ Q'' := by
  intro l0 σ h v
  unfold wX10_numberValue at h
  unfold vX10_numberValue at v
  unfold wX10_numberValue
  refine ⟨h.1, ?_⟩
  have v := v h.1
  have h := h.2
  intro v8 e2
  have h := h v8 e2
  have v := v v8 e2
  obtain ⟨j, h⟩ := h
  refine ⟨j, ?_⟩
  have v := v j
  exact jcX10_numberValue_7 hQ _ _ _ _ _ h v
set_option maxRecDepth 100000 in
set_option maxHeartbeats 4000000 in
theorem jaX10_numberValue {Q Q' : Int32 → kx_S → Prop} (hQ : ∀ y0 y1, Q y0 y1 → Q' y0 y1) : ∀ (l0 : Nat) (σ : kx_S), wX10_numberValue l0 σ Q → vX10_numberValue l0 σ Q' := by
  intro l0 σ h
  unfold wX10_numberValue at h
  unfold vX10_numberValue
  intro e1
  have h := h.2
  intro v8 e2
  have h := h v8 e2
  obtain ⟨j, h⟩ := h
  intro j9
  exact jaX10_numberValue_7 hQ _ j9 _ _ _ _ h
set_option maxRecDepth 100000 in
set_option maxHeartbeats 4000000 in
theorem jfX10_numberValue {I : kx_S → Prop} (W : fw_ I []) {Q : Int32 → kx_S → Prop} (hQ : ∀ y0 y1, I y1 → Q y0 y1) : ∀ (l0 : Nat) (σ : kx_S), I σ → vX10_numberValue l0 σ Q := by
  intro l0 σ i
  unfold vX10_numberValue
  intro e1
  intro v8 e2
  intro j
  exact jfX10_numberValue_7 (I := I) (fw_sub W (by decide)) hQ _ _ _ _ _ i
def vX5_init (l0 : Nat) (l1 : Nat) (σ : kx_S) (Q : kx_S → Prop) : Prop := xc σ < kx_N → ∀ p2, xt σ p2 = 0 → p2 ≠ xz σ → ∀ σ5, σ5 = xnew σ p2 12 → vX10_init p2 l1 σ5 (fun σ7 => xt σ7 l0 = 7 → ∀ σ9, σ9 = xsr σ7 112 l0 (some p2) → xc σ9 < kx_N → ¬ (500 : Int32) < 0 → (Int32.toNatClampNeg 500) ≤ 600 → ∀ p11, xt σ9 p11 = 0 → p11 ≠ xz σ9 → ∀ σ17, σ17 = xnewA σ9 p11 20 (Int32.toNatClampNeg 500) → xt σ17 l0 = 7 → ∀ σ20, σ20 = xsr σ17 113 l0 (some p11) → Q σ20)
set_option maxRecDepth 100000 in
set_option maxHeartbeats 4000000 in
theorem jcX5_init {Q Q' Q'' : kx_S → Prop} (hQ : ∀ y0, Q y0 → Q' y0 → Q'' y0) : ∀ (l0 : Nat) (l1 : Nat) (σ : kx_S), wX5_init l0 l1 σ Q → vX5_init l0 l1 σ Q' → wX5_init l0 l1 σ Q'' := by
  intro l0 l1 σ h v
  unfold wX5_init at h
  unfold vX5_init at v
  unfold wX5_init
  refine ⟨h.1, ?_⟩
  have v := v h.1
  have h := h.2
  intro p2 e2 e3
  have h := h p2 e2 e3
  have v := v p2 e2 e3
  intro σ5 e4
  have h := h σ5 e4
  have v := v σ5 e4
  refine jcX10_init ?_ _ _ _ h v
  intro σ7 h v
  refine ⟨h.1, ?_⟩
  have v := v h.1
  have h := h.2
  intro σ9 e6
  have h := h σ9 e6
  have v := v σ9 e6
  refine ⟨h.1, ?_⟩
  have v := v h.1
  have h := h.2
  refine ⟨h.1, ?_⟩
  have v := v h.1
  have h := h.2
  refine ⟨h.1, ?_⟩
  have v := v h.1
  have h := h.2
  intro p11 e10 e11
  have h := h p11 e10 e11
  have v := v p11 e10 e11
  intro σ17 e12
  have h := h σ17 e12
  have v := v σ17 e12
  refine ⟨h.1, ?_⟩
  have v := v h.1
  have h := h.2
  intro σ20 e14
  have h := h σ20 e14
  have v := v σ20 e14
  exact hQ _ h v
set_option maxRecDepth 100000 in
set_option maxHeartbeats 4000000 in
theorem jaX5_init {Q Q' : kx_S → Prop} (hQ : ∀ y0, Q y0 → Q' y0) : ∀ (l0 : Nat) (l1 : Nat) (σ : kx_S), wX5_init l0 l1 σ Q → vX5_init l0 l1 σ Q' := by
  intro l0 l1 σ h
  unfold wX5_init at h
  unfold vX5_init
  intro e1
  have h := h.2
  intro p2 e2 e3
  have h := h p2 e2 e3
  intro σ5 e4
  have h := h σ5 e4
  refine jaX10_init ?_ _ _ _ h
  intro σ7 h
  intro e5
  have h := h.2
  intro σ9 e6
  have h := h σ9 e6
  intro e7
  have h := h.2
  intro e8
  have h := h.2
  intro e9
  have h := h.2
  intro p11 e10 e11
  have h := h p11 e10 e11
  intro σ17 e12
  have h := h σ17 e12
  intro e13
  have h := h.2
  intro σ20 e14
  have h := h σ20 e14
  exact hQ _ h
set_option maxRecDepth 100000 in
set_option maxHeartbeats 4000000 in
theorem jfX5_init {I : kx_S → Prop} (W : fw_ I [112, 113, 192, 1112, 1220]) {Q : kx_S → Prop} (hQ : ∀ y0, I y0 → Q y0) : ∀ (l0 : Nat) (l1 : Nat) (σ : kx_S), I σ → vX5_init l0 l1 σ Q := by
  intro l0 l1 σ i
  unfold vX5_init
  intro e1
  intro p2 e2 e3
  intro σ5 e4
  have iσ5 : I σ5 := by rw [e4]; exact (W _ i).2.2.2.2.2.2.1 12 (by decide) _ e2
  refine jfX10_init (I := I) (fw_sub W (by decide)) ?_ _ _ _ iσ5
  intro σ7 iσ7
  intro e5
  intro σ9 e6
  have iσ9 : I σ9 := by rw [e6]; exact ((W _ iσ7).1 112 (by decide)).2.1 _ _
  intro e7
  intro e8
  intro e9
  intro p11 e10 e11
  intro σ17 e12
  have iσ17 : I σ17 := by rw [e12]; exact (W _ iσ9).2.2.2.2.2.2.2 20 (by decide) _ e10 _
  intro e13
  intro σ20 e14
  have iσ20 : I σ20 := by rw [e14]; exact ((W _ iσ17).1 113 (by decide)).2.1 _ _
  exact hQ _ iσ20
def vX5_put (l0 : Nat) (l1 : Int32) (σ : kx_S) (Q : kx_S → Prop) : Prop := xt σ l0 = 7 → ∀ a2, xr σ 113 l0 = some a2 → xt σ a2 = 20 → (((nI (xn σ a2)) ≤ (xi σ 114 l0) → Q σ) ∧ (¬ ((nI (xn σ a2)) ≤ (xi σ 114 l0)) → ∀ a6, xr σ 113 l0 = some a6 → xt σ a6 = 20 → vp_in (xi σ 114 l0) (xn σ a6) → ∀ σ10, σ10 = xsai σ a6 (xi σ 114 l0).toNatClampNeg l1 → ∀ σ14, σ14 = xsi σ10 114 l0 ((xi σ10 114 l0) + 1) → Q σ14))
set_option maxRecDepth 100000 in
set_option maxHeartbeats 4000000 in
theorem jcX5_put {Q Q' Q'' : kx_S → Prop} (hQ : ∀ y0, Q y0 → Q' y0 → Q'' y0) : ∀ (l0 : Nat) (l1 : Int32) (σ : kx_S), wX5_put l0 l1 σ Q → vX5_put l0 l1 σ Q' → wX5_put l0 l1 σ Q'' := by
  intro l0 l1 σ h v
  unfold wX5_put at h
  unfold vX5_put at v
  unfold wX5_put
  refine ⟨h.1, ?_⟩
  have v := v h.1
  have h := h.2
  obtain ⟨a2, e2, h⟩ := h
  refine ⟨a2, e2, ?_⟩
  have v := v a2 e2
  refine ⟨h.1, ?_⟩
  have v := v h.1
  have h := h.2
  refine ⟨?_, ?_⟩
  · have h := h.1
    have v := v.1
    intro e4
    have h := h e4
    have v := v e4
    exact hQ _ h v
  · have h := h.2
    have v := v.2
    intro e5
    have h := h e5
    have v := v e5
    obtain ⟨a6, e6, h⟩ := h
    refine ⟨a6, e6, ?_⟩
    have v := v a6 e6
    refine ⟨h.1, ?_⟩
    have v := v h.1
    have h := h.2
    refine ⟨h.1, ?_⟩
    have v := v h.1
    have h := h.2
    intro σ10 e9
    have h := h σ10 e9
    have v := v σ10 e9
    intro σ14 e10
    have h := h σ14 e10
    have v := v σ14 e10
    exact hQ _ h v
set_option maxRecDepth 100000 in
set_option maxHeartbeats 4000000 in
theorem jaX5_put {Q Q' : kx_S → Prop} (hQ : ∀ y0, Q y0 → Q' y0) : ∀ (l0 : Nat) (l1 : Int32) (σ : kx_S), wX5_put l0 l1 σ Q → vX5_put l0 l1 σ Q' := by
  intro l0 l1 σ h
  unfold wX5_put at h
  unfold vX5_put
  intro e1
  have h := h.2
  obtain ⟨a2', e2, h⟩ := h
  intro a2 e3
  have x9 : a2' = a2 := Option.some.inj (e2.symm.trans e3)
  rw [x9] at h
  intro e4
  have h := h.2
  refine ⟨?_, ?_⟩
  · have h := h.1
    intro e5
    have h := h e5
    exact hQ _ h
  · have h := h.2
    intro e6
    have h := h e6
    obtain ⟨a6', e7, h⟩ := h
    intro a6 e8
    have x9 : a6' = a6 := Option.some.inj (e7.symm.trans e8)
    rw [x9] at h
    intro e9
    have h := h.2
    intro e10
    have h := h.2
    intro σ10 e11
    have h := h σ10 e11
    intro σ14 e12
    have h := h σ14 e12
    exact hQ _ h
set_option maxRecDepth 100000 in
set_option maxHeartbeats 4000000 in
theorem jfX5_put {I : kx_S → Prop} (W : fw_ I [114, 1001]) {Q : kx_S → Prop} (hQ : ∀ y0, I y0 → Q y0) : ∀ (l0 : Nat) (l1 : Int32) (σ : kx_S), I σ → vX5_put l0 l1 σ Q := by
  intro l0 l1 σ i
  unfold vX5_put
  intro e1
  intro a2 e2
  intro e3
  refine ⟨?_, ?_⟩
  · intro e4
    exact hQ _ i
  · intro e5
    intro a6 e6
    intro e7
    intro e8
    intro σ10 e9
    have iσ10 : I σ10 := by rw [e9]; exact (W _ i).2.1 (by decide) _ _ _
    intro σ14 e10
    have iσ14 : I σ14 := by rw [e10]; exact ((W _ iσ10).1 114 (by decide)).1 _ _
    exact hQ _ iσ14
def vX5_fail (l0 : Nat) (l1 : Int32) (σ : kx_S) (Q : kx_S → Prop) : Prop := xt σ l0 = 7 → ((¬ (xi σ 115 l0) = 0 → Q σ) ∧ ((xi σ 115 l0) = 0 → ∀ σ3, σ3 = xsi σ 115 l0 l1 → ∀ a5, xr σ3 112 l0 = some a5 → xt σ3 a5 = 12 → ∀ σ8, σ8 = xsi σ3 116 l0 (xi σ3 195 a5) → Q σ8))
set_option maxRecDepth 100000 in
set_option maxHeartbeats 4000000 in
theorem jcX5_fail {Q Q' Q'' : kx_S → Prop} (hQ : ∀ y0, Q y0 → Q' y0 → Q'' y0) : ∀ (l0 : Nat) (l1 : Int32) (σ : kx_S), wX5_fail l0 l1 σ Q → vX5_fail l0 l1 σ Q' → wX5_fail l0 l1 σ Q'' := by
  intro l0 l1 σ h v
  unfold wX5_fail at h
  unfold vX5_fail at v
  unfold wX5_fail
  refine ⟨h.1, ?_⟩
  have v := v h.1
  have h := h.2
  refine ⟨?_, ?_⟩
  · have h := h.1
    have v := v.1
    intro e2
    have h := h e2
    have v := v e2
    exact hQ _ h v
  · have h := h.2
    have v := v.2
    intro e3
    have h := h e3
    have v := v e3
    intro σ3 e4
    have h := h σ3 e4
    have v := v σ3 e4
    obtain ⟨a5, e5, h⟩ := h
    refine ⟨a5, e5, ?_⟩
    have v := v a5 e5
    refine ⟨h.1, ?_⟩
    have v := v h.1
    have h := h.2
    intro σ8 e7
    have h := h σ8 e7
    have v := v σ8 e7
    exact hQ _ h v
set_option maxRecDepth 100000 in
set_option maxHeartbeats 4000000 in
theorem jaX5_fail {Q Q' : kx_S → Prop} (hQ : ∀ y0, Q y0 → Q' y0) : ∀ (l0 : Nat) (l1 : Int32) (σ : kx_S), wX5_fail l0 l1 σ Q → vX5_fail l0 l1 σ Q' := by
  intro l0 l1 σ h
  unfold wX5_fail at h
  unfold vX5_fail
  intro e1
  have h := h.2
  refine ⟨?_, ?_⟩
  · have h := h.1
    intro e2
    have h := h e2
    exact hQ _ h
  · have h := h.2
    intro e3
    have h := h e3
    intro σ3 e4
    have h := h σ3 e4
    obtain ⟨a5', e5, h⟩ := h
    intro a5 e6
    have x9 : a5' = a5 := Option.some.inj (e5.symm.trans e6)
    rw [x9] at h
    intro e7
    have h := h.2
    intro σ8 e8
    have h := h σ8 e8
    exact hQ _ h
set_option maxRecDepth 100000 in
set_option maxHeartbeats 4000000 in
theorem jfX5_fail {I : kx_S → Prop} (W : fw_ I [115, 116]) {Q : kx_S → Prop} (hQ : ∀ y0, I y0 → Q y0) : ∀ (l0 : Nat) (l1 : Int32) (σ : kx_S), I σ → vX5_fail l0 l1 σ Q := by
  intro l0 l1 σ i
  unfold vX5_fail
  intro e1
  refine ⟨?_, ?_⟩
  · intro e2
    exact hQ _ i
  · intro e3
    intro σ3 e4
    have iσ3 : I σ3 := by rw [e4]; exact ((W _ i).1 115 (by decide)).1 _ _
    intro a5 e5
    intro e6
    intro σ8 e7
    have iσ8 : I σ8 := by rw [e7]; exact ((W _ iσ3).1 116 (by decide)).1 _ _
    exact hQ _ iσ8
def vX5_pass (l0 : Nat) (l1 : Int32) (σ : kx_S) (Q : kx_S → Prop) : Prop := xt σ l0 = 7 → (((xi σ 115 l0) = 0 → ∀ a3, xr σ 112 l0 = some a3 → xt σ a3 = 12 → (((xi σ 196 a3) = l1 → ∀ a7, xr σ 112 l0 = some a7 → xt σ a7 = 12 → vX10_advance a7 σ (fun σ9 => Q σ9)) ∧ (¬ ((xi σ 196 a3) = l1) → vX5_fail l0 1 σ (fun σ11 => Q σ11)))) ∧ (¬ ((xi σ 115 l0) = 0) → Q σ))
set_option maxRecDepth 100000 in
set_option maxHeartbeats 4000000 in
theorem jcX5_pass {Q Q' Q'' : kx_S → Prop} (hQ : ∀ y0, Q y0 → Q' y0 → Q'' y0) : ∀ (l0 : Nat) (l1 : Int32) (σ : kx_S), wX5_pass l0 l1 σ Q → vX5_pass l0 l1 σ Q' → wX5_pass l0 l1 σ Q'' := by
  intro l0 l1 σ h v
  unfold wX5_pass at h
  unfold vX5_pass at v
  unfold wX5_pass
  refine ⟨h.1, ?_⟩
  have v := v h.1
  have h := h.2
  refine ⟨?_, ?_⟩
  · have h := h.1
    have v := v.1
    intro e2
    have h := h e2
    have v := v e2
    obtain ⟨a3, e3, h⟩ := h
    refine ⟨a3, e3, ?_⟩
    have v := v a3 e3
    refine ⟨h.1, ?_⟩
    have v := v h.1
    have h := h.2
    refine ⟨?_, ?_⟩
    · have h := h.1
      have v := v.1
      intro e5
      have h := h e5
      have v := v e5
      obtain ⟨a7, e6, h⟩ := h
      refine ⟨a7, e6, ?_⟩
      have v := v a7 e6
      refine ⟨h.1, ?_⟩
      have v := v h.1
      have h := h.2
      refine jcX10_advance ?_ _ _ h v
      intro σ9 h v
      exact hQ _ h v
    · have h := h.2
      have v := v.2
      intro e8
      have h := h e8
      have v := v e8
      refine jcX5_fail ?_ _ _ _ h v
      intro σ11 h v
      exact hQ _ h v
  · have h := h.2
    have v := v.2
    intro e9
    have h := h e9
    have v := v e9
    exact hQ _ h v
set_option maxRecDepth 100000 in
set_option maxHeartbeats 4000000 in
theorem jaX5_pass {Q Q' : kx_S → Prop} (hQ : ∀ y0, Q y0 → Q' y0) : ∀ (l0 : Nat) (l1 : Int32) (σ : kx_S), wX5_pass l0 l1 σ Q → vX5_pass l0 l1 σ Q' := by
  intro l0 l1 σ h
  unfold wX5_pass at h
  unfold vX5_pass
  intro e1
  have h := h.2
  refine ⟨?_, ?_⟩
  · have h := h.1
    intro e2
    have h := h e2
    obtain ⟨a3', e3, h⟩ := h
    intro a3 e4
    have x9 : a3' = a3 := Option.some.inj (e3.symm.trans e4)
    rw [x9] at h
    intro e5
    have h := h.2
    refine ⟨?_, ?_⟩
    · have h := h.1
      intro e6
      have h := h e6
      obtain ⟨a7', e7, h⟩ := h
      intro a7 e8
      have x9 : a7' = a7 := Option.some.inj (e7.symm.trans e8)
      rw [x9] at h
      intro e9
      have h := h.2
      refine jaX10_advance ?_ _ _ h
      intro σ9 h
      exact hQ _ h
    · have h := h.2
      intro e10
      have h := h e10
      refine jaX5_fail ?_ _ _ _ h
      intro σ11 h
      exact hQ _ h
  · have h := h.2
    intro e11
    have h := h e11
    exact hQ _ h
set_option maxRecDepth 100000 in
set_option maxHeartbeats 4000000 in
theorem jfX5_pass {I : kx_S → Prop} (W : fw_ I [115, 116, 194, 195, 196]) {Q : kx_S → Prop} (hQ : ∀ y0, I y0 → Q y0) : ∀ (l0 : Nat) (l1 : Int32) (σ : kx_S), I σ → vX5_pass l0 l1 σ Q := by
  intro l0 l1 σ i
  unfold vX5_pass
  intro e1
  refine ⟨?_, ?_⟩
  · intro e2
    intro a3 e3
    intro e4
    refine ⟨?_, ?_⟩
    · intro e5
      intro a7 e6
      intro e7
      refine jfX10_advance (I := I) (fw_sub W (by decide)) ?_ _ _ i
      intro σ9 iσ9
      exact hQ _ iσ9
    · intro e8
      refine jfX5_fail (I := I) (fw_sub W (by decide)) ?_ _ _ _ i
      intro σ11 iσ11
      exact hQ _ iσ11
  · intro e9
    exact hQ _ i
def vX5_codeOfName (l0 : Nat) (σ : kx_S) (Q : Int32 → kx_S → Prop) : Prop := xt σ l0 = 7 → ∀ a2, xr σ 112 l0 = some a2 → xt σ a2 = 12 → vX10_isWord a2 0 σ (fun r5 σ4 => ((r5 = 0 → xt σ4 l0 = 7 → ∀ a9, xr σ4 112 l0 = some a9 → xt σ4 a9 = 12 → vX10_isWord a9 1 σ4 (fun r12 σ11 => ((r12 = 0 → xt σ11 l0 = 7 → ∀ a16, xr σ11 112 l0 = some a16 → xt σ11 a16 = 12 → vX10_isWord a16 2 σ11 (fun r19 σ18 => ((r19 = 0 → xt σ18 l0 = 7 → ∀ a23, xr σ18 112 l0 = some a23 → xt σ18 a23 = 12 → vX10_isWord a23 3 σ18 (fun r26 σ25 => ((r26 = 0 → xt σ25 l0 = 7 → ∀ a30, xr σ25 112 l0 = some a30 → xt σ25 a30 = 12 → vX10_isWord a30 4 σ25 (fun r33 σ32 => ((r33 = 0 → xt σ32 l0 = 7 → ∀ a37, xr σ32 112 l0 = some a37 → xt σ32 a37 = 12 → vX10_isWord a37 5 σ32 (fun r40 σ39 => ((r40 = 0 → xt σ39 l0 = 7 → ∀ a44, xr σ39 112 l0 = some a44 → xt σ39 a44 = 12 → vX10_isWord a44 6 σ39 (fun r47 σ46 => ((r47 = 0 → Q 0 σ46) ∧ (¬ (r47 = 0) → Q (-7) σ46)))) ∧ (¬ (r40 = 0) → Q (-6) σ39)))) ∧ (¬ (r33 = 0) → Q (-5) σ32)))) ∧ (¬ (r26 = 0) → Q (-4) σ25)))) ∧ (¬ (r19 = 0) → Q (-3) σ18)))) ∧ (¬ (r12 = 0) → Q (-2) σ11)))) ∧ (¬ (r5 = 0) → Q (-1) σ4)))
set_option maxRecDepth 100000 in
set_option maxHeartbeats 4000000 in
theorem jcX5_codeOfName {Q Q' Q'' : Int32 → kx_S → Prop} (hQ : ∀ y0 y1, Q y0 y1 → Q' y0 y1 → Q'' y0 y1) : ∀ (l0 : Nat) (σ : kx_S), wX5_codeOfName l0 σ Q → vX5_codeOfName l0 σ Q' → wX5_codeOfName l0 σ Q'' := by
  intro l0 σ h v
  unfold wX5_codeOfName at h
  unfold vX5_codeOfName at v
  unfold wX5_codeOfName
  refine ⟨h.1, ?_⟩
  have v := v h.1
  have h := h.2
  obtain ⟨a2, e2, h⟩ := h
  refine ⟨a2, e2, ?_⟩
  have v := v a2 e2
  refine ⟨h.1, ?_⟩
  have v := v h.1
  have h := h.2
  refine jcX10_isWord ?_ _ _ _ h v
  intro r5 σ4 h v
  refine ⟨?_, ?_⟩
  · have h := h.1
    have v := v.1
    intro e4
    have h := h e4
    have v := v e4
    refine ⟨h.1, ?_⟩
    have v := v h.1
    have h := h.2
    obtain ⟨a9, e6, h⟩ := h
    refine ⟨a9, e6, ?_⟩
    have v := v a9 e6
    refine ⟨h.1, ?_⟩
    have v := v h.1
    have h := h.2
    refine jcX10_isWord ?_ _ _ _ h v
    intro r12 σ11 h v
    refine ⟨?_, ?_⟩
    · have h := h.1
      have v := v.1
      intro e8
      have h := h e8
      have v := v e8
      refine ⟨h.1, ?_⟩
      have v := v h.1
      have h := h.2
      obtain ⟨a16, e10, h⟩ := h
      refine ⟨a16, e10, ?_⟩
      have v := v a16 e10
      refine ⟨h.1, ?_⟩
      have v := v h.1
      have h := h.2
      refine jcX10_isWord ?_ _ _ _ h v
      intro r19 σ18 h v
      refine ⟨?_, ?_⟩
      · have h := h.1
        have v := v.1
        intro e12
        have h := h e12
        have v := v e12
        refine ⟨h.1, ?_⟩
        have v := v h.1
        have h := h.2
        obtain ⟨a23, e14, h⟩ := h
        refine ⟨a23, e14, ?_⟩
        have v := v a23 e14
        refine ⟨h.1, ?_⟩
        have v := v h.1
        have h := h.2
        refine jcX10_isWord ?_ _ _ _ h v
        intro r26 σ25 h v
        refine ⟨?_, ?_⟩
        · have h := h.1
          have v := v.1
          intro e16
          have h := h e16
          have v := v e16
          refine ⟨h.1, ?_⟩
          have v := v h.1
          have h := h.2
          obtain ⟨a30, e18, h⟩ := h
          refine ⟨a30, e18, ?_⟩
          have v := v a30 e18
          refine ⟨h.1, ?_⟩
          have v := v h.1
          have h := h.2
          refine jcX10_isWord ?_ _ _ _ h v
          intro r33 σ32 h v
          refine ⟨?_, ?_⟩
          · have h := h.1
            have v := v.1
            intro e20
            have h := h e20
            have v := v e20
            refine ⟨h.1, ?_⟩
            have v := v h.1
            have h := h.2
            obtain ⟨a37, e22, h⟩ := h
            refine ⟨a37, e22, ?_⟩
            have v := v a37 e22
            refine ⟨h.1, ?_⟩
            have v := v h.1
            have h := h.2
            refine jcX10_isWord ?_ _ _ _ h v
            intro r40 σ39 h v
            refine ⟨?_, ?_⟩
            · have h := h.1
              have v := v.1
              intro e24
              have h := h e24
              have v := v e24
              refine ⟨h.1, ?_⟩
              have v := v h.1
              have h := h.2
              obtain ⟨a44, e26, h⟩ := h
              refine ⟨a44, e26, ?_⟩
              have v := v a44 e26
              refine ⟨h.1, ?_⟩
              have v := v h.1
              have h := h.2
              refine jcX10_isWord ?_ _ _ _ h v
              intro r47 σ46 h v
              refine ⟨?_, ?_⟩
              · have h := h.1
                have v := v.1
                intro e28
                have h := h e28
                have v := v e28
                exact hQ _ _ h v
              · have h := h.2
                have v := v.2
                intro e29
                have h := h e29
                have v := v e29
                exact hQ _ _ h v
            · have h := h.2
              have v := v.2
              intro e30
              have h := h e30
              have v := v e30
              exact hQ _ _ h v
          · have h := h.2
            have v := v.2
            intro e31
            have h := h e31
            have v := v e31
            exact hQ _ _ h v
        · have h := h.2
          have v := v.2
          intro e32
          have h := h e32
          have v := v e32
          exact hQ _ _ h v
      · have h := h.2
        have v := v.2
        intro e33
        have h := h e33
        have v := v e33
        exact hQ _ _ h v
    · have h := h.2
      have v := v.2
      intro e34
      have h := h e34
      have v := v e34
      exact hQ _ _ h v
  · have h := h.2
    have v := v.2
    intro e35
    have h := h e35
    have v := v e35
    exact hQ _ _ h v
set_option maxRecDepth 100000 in
set_option maxHeartbeats 4000000 in
theorem jaX5_codeOfName {Q Q' : Int32 → kx_S → Prop} (hQ : ∀ y0 y1, Q y0 y1 → Q' y0 y1) : ∀ (l0 : Nat) (σ : kx_S), wX5_codeOfName l0 σ Q → vX5_codeOfName l0 σ Q' := by
  intro l0 σ h
  unfold wX5_codeOfName at h
  unfold vX5_codeOfName
  intro e1
  have h := h.2
  obtain ⟨a2', e2, h⟩ := h
  intro a2 e3
  have x9 : a2' = a2 := Option.some.inj (e2.symm.trans e3)
  rw [x9] at h
  intro e4
  have h := h.2
  refine jaX10_isWord ?_ _ _ _ h
  intro r5 σ4 h
  refine ⟨?_, ?_⟩
  · have h := h.1
    intro e5
    have h := h e5
    intro e6
    have h := h.2
    obtain ⟨a9', e7, h⟩ := h
    intro a9 e8
    have x9 : a9' = a9 := Option.some.inj (e7.symm.trans e8)
    rw [x9] at h
    intro e9
    have h := h.2
    refine jaX10_isWord ?_ _ _ _ h
    intro r12 σ11 h
    refine ⟨?_, ?_⟩
    · have h := h.1
      intro e10
      have h := h e10
      intro e11
      have h := h.2
      obtain ⟨a16', e12, h⟩ := h
      intro a16 e13
      have x9 : a16' = a16 := Option.some.inj (e12.symm.trans e13)
      rw [x9] at h
      intro e14
      have h := h.2
      refine jaX10_isWord ?_ _ _ _ h
      intro r19 σ18 h
      refine ⟨?_, ?_⟩
      · have h := h.1
        intro e15
        have h := h e15
        intro e16
        have h := h.2
        obtain ⟨a23', e17, h⟩ := h
        intro a23 e18
        have x9 : a23' = a23 := Option.some.inj (e17.symm.trans e18)
        rw [x9] at h
        intro e19
        have h := h.2
        refine jaX10_isWord ?_ _ _ _ h
        intro r26 σ25 h
        refine ⟨?_, ?_⟩
        · have h := h.1
          intro e20
          have h := h e20
          intro e21
          have h := h.2
          obtain ⟨a30', e22, h⟩ := h
          intro a30 e23
          have x9 : a30' = a30 := Option.some.inj (e22.symm.trans e23)
          rw [x9] at h
          intro e24
          have h := h.2
          refine jaX10_isWord ?_ _ _ _ h
          intro r33 σ32 h
          refine ⟨?_, ?_⟩
          · have h := h.1
            intro e25
            have h := h e25
            intro e26
            have h := h.2
            obtain ⟨a37', e27, h⟩ := h
            intro a37 e28
            have x9 : a37' = a37 := Option.some.inj (e27.symm.trans e28)
            rw [x9] at h
            intro e29
            have h := h.2
            refine jaX10_isWord ?_ _ _ _ h
            intro r40 σ39 h
            refine ⟨?_, ?_⟩
            · have h := h.1
              intro e30
              have h := h e30
              intro e31
              have h := h.2
              obtain ⟨a44', e32, h⟩ := h
              intro a44 e33
              have x9 : a44' = a44 := Option.some.inj (e32.symm.trans e33)
              rw [x9] at h
              intro e34
              have h := h.2
              refine jaX10_isWord ?_ _ _ _ h
              intro r47 σ46 h
              refine ⟨?_, ?_⟩
              · have h := h.1
                intro e35
                have h := h e35
                exact hQ _ _ h
              · have h := h.2
                intro e36
                have h := h e36
                exact hQ _ _ h
            · have h := h.2
              intro e37
              have h := h e37
              exact hQ _ _ h
          · have h := h.2
            intro e38
            have h := h e38
            exact hQ _ _ h
        · have h := h.2
          intro e39
          have h := h e39
          exact hQ _ _ h
      · have h := h.2
        intro e40
        have h := h e40
        exact hQ _ _ h
    · have h := h.2
      intro e41
      have h := h e41
      exact hQ _ _ h
  · have h := h.2
    intro e42
    have h := h e42
    exact hQ _ _ h
set_option maxRecDepth 100000 in
set_option maxHeartbeats 4000000 in
theorem jfX5_codeOfName {I : kx_S → Prop} (W : fw_ I []) {Q : Int32 → kx_S → Prop} (hQ : ∀ y0 y1, I y1 → Q y0 y1) : ∀ (l0 : Nat) (σ : kx_S), I σ → vX5_codeOfName l0 σ Q := by
  intro l0 σ i
  unfold vX5_codeOfName
  intro e1
  intro a2 e2
  intro e3
  refine jfX10_isWord (I := I) (fw_sub W (by decide)) ?_ _ _ _ i
  intro r5 σ4 iσ4
  refine ⟨?_, ?_⟩
  · intro e4
    intro e5
    intro a9 e6
    intro e7
    refine jfX10_isWord (I := I) (fw_sub W (by decide)) ?_ _ _ _ iσ4
    intro r12 σ11 iσ11
    refine ⟨?_, ?_⟩
    · intro e8
      intro e9
      intro a16 e10
      intro e11
      refine jfX10_isWord (I := I) (fw_sub W (by decide)) ?_ _ _ _ iσ11
      intro r19 σ18 iσ18
      refine ⟨?_, ?_⟩
      · intro e12
        intro e13
        intro a23 e14
        intro e15
        refine jfX10_isWord (I := I) (fw_sub W (by decide)) ?_ _ _ _ iσ18
        intro r26 σ25 iσ25
        refine ⟨?_, ?_⟩
        · intro e16
          intro e17
          intro a30 e18
          intro e19
          refine jfX10_isWord (I := I) (fw_sub W (by decide)) ?_ _ _ _ iσ25
          intro r33 σ32 iσ32
          refine ⟨?_, ?_⟩
          · intro e20
            intro e21
            intro a37 e22
            intro e23
            refine jfX10_isWord (I := I) (fw_sub W (by decide)) ?_ _ _ _ iσ32
            intro r40 σ39 iσ39
            refine ⟨?_, ?_⟩
            · intro e24
              intro e25
              intro a44 e26
              intro e27
              refine jfX10_isWord (I := I) (fw_sub W (by decide)) ?_ _ _ _ iσ39
              intro r47 σ46 iσ46
              refine ⟨?_, ?_⟩
              · intro e28
                exact hQ _ _ iσ46
              · intro e29
                exact hQ _ _ iσ46
            · intro e30
              exact hQ _ _ iσ39
          · intro e31
            exact hQ _ _ iσ32
        · intro e32
          exact hQ _ _ iσ25
      · intro e33
        exact hQ _ _ iσ18
    · intro e34
      exact hQ _ _ iσ11
  · intro e35
    exact hQ _ _ iσ4
def vX5_faultOfPart (l0 : Nat) (σ : kx_S) (Q : Int32 → kx_S → Prop) : Prop := xt σ l0 = 7 → ∀ a2, xr σ 112 l0 = some a2 → xt σ a2 = 12 → ∀ v5, v5 = xi σ 196 a2 → ((v5 = 1 → vX5_codeOfName l0 σ (fun r8 σ7 => ((¬ r8 = 0 → Q 0 σ7) ∧ (r8 = 0 → Q 3 σ7)))) ∧ ((v5 = 2 → Q 0 σ) ∧ ((v5 = 3 → Q 2 σ) ∧ ((v5 = 40 → Q 0 σ) ∧ (¬ v5 = 1 → ¬ v5 = 2 → ¬ v5 = 3 → ¬ v5 = 40 → Q 1 σ)))))
set_option maxRecDepth 100000 in
set_option maxHeartbeats 4000000 in
theorem jcX5_faultOfPart {Q Q' Q'' : Int32 → kx_S → Prop} (hQ : ∀ y0 y1, Q y0 y1 → Q' y0 y1 → Q'' y0 y1) : ∀ (l0 : Nat) (σ : kx_S), wX5_faultOfPart l0 σ Q → vX5_faultOfPart l0 σ Q' → wX5_faultOfPart l0 σ Q'' := by
  intro l0 σ h v
  unfold wX5_faultOfPart at h
  unfold vX5_faultOfPart at v
  unfold wX5_faultOfPart
  refine ⟨h.1, ?_⟩
  have v := v h.1
  have h := h.2
  obtain ⟨a2, e2, h⟩ := h
  refine ⟨a2, e2, ?_⟩
  have v := v a2 e2
  refine ⟨h.1, ?_⟩
  have v := v h.1
  have h := h.2
  intro v5 e4
  have h := h v5 e4
  have v := v v5 e4
  refine ⟨?_, ?_⟩
  · have h := h.1
    have v := v.1
    intro e5
    have h := h e5
    have v := v e5
    refine jcX5_codeOfName ?_ _ _ h v
    intro r8 σ7 h v
    refine ⟨?_, ?_⟩
    · have h := h.1
      have v := v.1
      intro e6
      have h := h e6
      have v := v e6
      exact hQ _ _ h v
    · have h := h.2
      have v := v.2
      intro e7
      have h := h e7
      have v := v e7
      exact hQ _ _ h v
  · have h := h.2
    have v := v.2
    refine ⟨?_, ?_⟩
    · have h := h.1
      have v := v.1
      intro e8
      have h := h e8
      have v := v e8
      exact hQ _ _ h v
    · have h := h.2
      have v := v.2
      refine ⟨?_, ?_⟩
      · have h := h.1
        have v := v.1
        intro e9
        have h := h e9
        have v := v e9
        exact hQ _ _ h v
      · have h := h.2
        have v := v.2
        refine ⟨?_, ?_⟩
        · have h := h.1
          have v := v.1
          intro e10
          have h := h e10
          have v := v e10
          exact hQ _ _ h v
        · have h := h.2
          have v := v.2
          intro e11 e12 e13 e14
          have h := h e11 e12 e13 e14
          have v := v e11 e12 e13 e14
          exact hQ _ _ h v
set_option maxRecDepth 100000 in
set_option maxHeartbeats 4000000 in
theorem jaX5_faultOfPart {Q Q' : Int32 → kx_S → Prop} (hQ : ∀ y0 y1, Q y0 y1 → Q' y0 y1) : ∀ (l0 : Nat) (σ : kx_S), wX5_faultOfPart l0 σ Q → vX5_faultOfPart l0 σ Q' := by
  intro l0 σ h
  unfold wX5_faultOfPart at h
  unfold vX5_faultOfPart
  intro e1
  have h := h.2
  obtain ⟨a2', e2, h⟩ := h
  intro a2 e3
  have x9 : a2' = a2 := Option.some.inj (e2.symm.trans e3)
  rw [x9] at h
  intro e4
  have h := h.2
  intro v5 e5
  have h := h v5 e5
  refine ⟨?_, ?_⟩
  · have h := h.1
    intro e6
    have h := h e6
    refine jaX5_codeOfName ?_ _ _ h
    intro r8 σ7 h
    refine ⟨?_, ?_⟩
    · have h := h.1
      intro e7
      have h := h e7
      exact hQ _ _ h
    · have h := h.2
      intro e8
      have h := h e8
      exact hQ _ _ h
  · have h := h.2
    refine ⟨?_, ?_⟩
    · have h := h.1
      intro e9
      have h := h e9
      exact hQ _ _ h
    · have h := h.2
      refine ⟨?_, ?_⟩
      · have h := h.1
        intro e10
        have h := h e10
        exact hQ _ _ h
      · have h := h.2
        refine ⟨?_, ?_⟩
        · have h := h.1
          intro e11
          have h := h e11
          exact hQ _ _ h
        · have h := h.2
          intro e12 e13 e14 e15
          have h := h e12 e13 e14 e15
          exact hQ _ _ h
set_option maxRecDepth 100000 in
set_option maxHeartbeats 4000000 in
theorem jfX5_faultOfPart {I : kx_S → Prop} (W : fw_ I []) {Q : Int32 → kx_S → Prop} (hQ : ∀ y0 y1, I y1 → Q y0 y1) : ∀ (l0 : Nat) (σ : kx_S), I σ → vX5_faultOfPart l0 σ Q := by
  intro l0 σ i
  unfold vX5_faultOfPart
  intro e1
  intro a2 e2
  intro e3
  intro v5 e4
  refine ⟨?_, ?_⟩
  · intro e5
    refine jfX5_codeOfName (I := I) (fw_sub W (by decide)) ?_ _ _ i
    intro r8 σ7 iσ7
    refine ⟨?_, ?_⟩
    · intro e6
      exact hQ _ _ iσ7
    · intro e7
      exact hQ _ _ iσ7
  · refine ⟨?_, ?_⟩
    · intro e8
      exact hQ _ _ i
    · refine ⟨?_, ?_⟩
      · intro e9
        exact hQ _ _ i
      · refine ⟨?_, ?_⟩
        · intro e10
          exact hQ _ _ i
        · intro e11 e12 e13 e14
          exact hQ _ _ i
def vX5_readPart_78 (re : Nat → Int32 → kx_S → (kx_S → Prop) → Prop) (Q : kx_S → Prop) (l0 : Nat) (s0 : Int32) (s1 : Nat) (σ : kx_S) : Prop := xt σ s1 = 7 → vX5_put s1 s0 σ (fun σ1 => xt σ1 l0 = 7 → ∀ a4, xr σ1 112 l0 = some a4 → xt σ1 a4 = 12 → vX10_advance a4 σ1 (fun σ6 => Q σ6))
set_option maxRecDepth 100000 in
set_option maxHeartbeats 4000000 in
theorem jcX5_readPart_78 {re re' : Nat → Int32 → kx_S → (kx_S → Prop) → Prop} (hre : ∀ {P P' P'' : kx_S → Prop}, (∀ y0, P y0 → P' y0 → P'' y0) → ∀ (x0 : Nat) (x1 : Int32) (x2 : kx_S), re x0 x1 x2 P → re' x0 x1 x2 P' → re x0 x1 x2 P'') {Q Q' Q'' : kx_S → Prop} (hQ : ∀ y0, Q y0 → Q' y0 → Q'' y0) : ∀ (l0 : Nat) (s0 : Int32) (s1 : Nat) (σ : kx_S), wX5_readPart_78 re Q l0 s0 s1 σ → vX5_readPart_78 re' Q' l0 s0 s1 σ → wX5_readPart_78 re Q'' l0 s0 s1 σ := by
  intro l0 s0 s1 σ h v
  unfold wX5_readPart_78 at h
  unfold vX5_readPart_78 at v
  unfold wX5_readPart_78
  refine ⟨h.1, ?_⟩
  have v := v h.1
  have h := h.2
  refine jcX5_put ?_ _ _ _ h v
  intro σ1 h v
  refine ⟨h.1, ?_⟩
  have v := v h.1
  have h := h.2
  obtain ⟨a4, e3, h⟩ := h
  refine ⟨a4, e3, ?_⟩
  have v := v a4 e3
  refine ⟨h.1, ?_⟩
  have v := v h.1
  have h := h.2
  refine jcX10_advance ?_ _ _ h v
  intro σ6 h v
  exact hQ _ h v
set_option maxRecDepth 100000 in
set_option maxHeartbeats 4000000 in
theorem jaX5_readPart_78 {re re' : Nat → Int32 → kx_S → (kx_S → Prop) → Prop} (hre : ∀ {P P' : kx_S → Prop}, (∀ y0, P y0 → P' y0) → ∀ (x0 : Nat) (x1 : Int32) (x2 : kx_S), re x0 x1 x2 P → re' x0 x1 x2 P') {Q Q' : kx_S → Prop} (hQ : ∀ y0, Q y0 → Q' y0) : ∀ (l0 : Nat) (s0 : Int32) (s1 : Nat) (σ : kx_S), wX5_readPart_78 re Q l0 s0 s1 σ → vX5_readPart_78 re' Q' l0 s0 s1 σ := by
  intro l0 s0 s1 σ h
  unfold wX5_readPart_78 at h
  unfold vX5_readPart_78
  intro e1
  have h := h.2
  refine jaX5_put ?_ _ _ _ h
  intro σ1 h
  intro e2
  have h := h.2
  obtain ⟨a4', e3, h⟩ := h
  intro a4 e4
  have x9 : a4' = a4 := Option.some.inj (e3.symm.trans e4)
  rw [x9] at h
  intro e5
  have h := h.2
  refine jaX10_advance ?_ _ _ h
  intro σ6 h
  exact hQ _ h
set_option maxRecDepth 100000 in
set_option maxHeartbeats 4000000 in
theorem jfX5_readPart_78 {I : kx_S → Prop} (W : fw_ I [114, 115, 116, 194, 195, 196, 1001]) {re : Nat → Int32 → kx_S → (kx_S → Prop) → Prop} (hre : ∀ {P : kx_S → Prop}, (∀ y0, I y0 → P y0) → ∀ (x0 : Nat) (x1 : Int32) (x2 : kx_S), I x2 → re x0 x1 x2 P) {Q : kx_S → Prop} (hQ : ∀ y0, I y0 → Q y0) : ∀ (l0 : Nat) (s0 : Int32) (s1 : Nat) (σ : kx_S), I σ → vX5_readPart_78 re Q l0 s0 s1 σ := by
  intro l0 s0 s1 σ i
  unfold vX5_readPart_78
  intro e1
  refine jfX5_put (I := I) (fw_sub W (by decide)) ?_ _ _ _ i
  intro σ1 iσ1
  intro e2
  intro a4 e3
  intro e4
  refine jfX10_advance (I := I) (fw_sub W (by decide)) ?_ _ _ iσ1
  intro σ6 iσ6
  exact hQ _ iσ6
def vX5_readPart (re : Nat → Int32 → kx_S → (kx_S → Prop) → Prop) (l0 : Nat) (l1 : Int32) (σ : kx_S) (Q : kx_S → Prop) : Prop := xt σ l0 = 7 → vX5_faultOfPart l0 σ (fun r9 σ8 => ((r9 = 0 → xt σ8 l0 = 7 → ∀ a13, xr σ8 112 l0 = some a13 → xt σ8 a13 = 12 → ((¬ (xi σ8 196 a13) = 40 → ∀ a17, xr σ8 112 l0 = some a17 → xt σ8 a17 = 12 → ((¬ (xi σ8 196 a17) = 2 → vX5_codeOfName l0 σ8 (fun r22 σ21 => vX5_readPart_78 re Q l0 r22 l0 σ21)) ∧ ((xi σ8 196 a17) = 2 → ∀ a23, xr σ8 112 l0 = some a23 → xt σ8 a23 = 12 → vX10_numberValue a23 σ8 (fun r26 σ25 => vX5_readPart_78 re Q l0 r26 l0 σ25)))) ∧ ((xi σ8 196 a13) = 40 → ∀ a28, xr σ8 112 l0 = some a28 → xt σ8 a28 = 12 → vX10_advance a28 σ8 (fun σ30 => xt σ30 l0 = 7 → re l0 (l1 + 1) σ30 (fun σ32 => xt σ32 l0 = 7 → vX5_pass l0 41 σ32 (fun σ34 => Q σ34)))))) ∧ (¬ (r9 = 0) → xt σ8 l0 = 7 → vX5_fail l0 r9 σ8 (fun σ36 => Q σ36))))
set_option maxRecDepth 100000 in
set_option maxHeartbeats 4000000 in
theorem jcX5_readPart {re re' : Nat → Int32 → kx_S → (kx_S → Prop) → Prop} (hre : ∀ {P P' P'' : kx_S → Prop}, (∀ y0, P y0 → P' y0 → P'' y0) → ∀ (x0 : Nat) (x1 : Int32) (x2 : kx_S), re x0 x1 x2 P → re' x0 x1 x2 P' → re x0 x1 x2 P'') {Q Q' Q'' : kx_S → Prop} (hQ : ∀ y0, Q y0 → Q' y0 → Q'' y0) : ∀ (l0 : Nat) (l1 : Int32) (σ : kx_S), wX5_readPart re l0 l1 σ Q → vX5_readPart re' l0 l1 σ Q' → wX5_readPart re l0 l1 σ Q'' := by
  intro l0 l1 σ h v
  unfold wX5_readPart at h
  unfold vX5_readPart at v
  unfold wX5_readPart
  refine ⟨h.1, ?_⟩
  have v := v h.1
  have h := h.2
  refine jcX5_faultOfPart ?_ _ _ h v
  intro r9 σ8 h v
  refine ⟨?_, ?_⟩
  · have h := h.1
    have v := v.1
    intro e2
    have h := h e2
    have v := v e2
    refine ⟨h.1, ?_⟩
    have v := v h.1
    have h := h.2
    obtain ⟨a13, e4, h⟩ := h
    refine ⟨a13, e4, ?_⟩
    have v := v a13 e4
    refine ⟨h.1, ?_⟩
    have v := v h.1
    have h := h.2
    refine ⟨?_, ?_⟩
    · have h := h.1
      have v := v.1
      intro e6
      have h := h e6
      have v := v e6
      obtain ⟨a17, e7, h⟩ := h
      refine ⟨a17, e7, ?_⟩
      have v := v a17 e7
      refine ⟨h.1, ?_⟩
      have v := v h.1
      have h := h.2
      refine ⟨?_, ?_⟩
      · have h := h.1
        have v := v.1
        intro e9
        have h := h e9
        have v := v e9
        refine jcX5_codeOfName ?_ _ _ h v
        intro r22 σ21 h v
        exact jcX5_readPart_78 hre hQ _ _ _ _ h v
      · have h := h.2
        have v := v.2
        intro e10
        have h := h e10
        have v := v e10
        obtain ⟨a23, e11, h⟩ := h
        refine ⟨a23, e11, ?_⟩
        have v := v a23 e11
        refine ⟨h.1, ?_⟩
        have v := v h.1
        have h := h.2
        refine jcX10_numberValue ?_ _ _ h v
        intro r26 σ25 h v
        exact jcX5_readPart_78 hre hQ _ _ _ _ h v
    · have h := h.2
      have v := v.2
      intro e13
      have h := h e13
      have v := v e13
      obtain ⟨a28, e14, h⟩ := h
      refine ⟨a28, e14, ?_⟩
      have v := v a28 e14
      refine ⟨h.1, ?_⟩
      have v := v h.1
      have h := h.2
      refine jcX10_advance ?_ _ _ h v
      intro σ30 h v
      refine ⟨h.1, ?_⟩
      have v := v h.1
      have h := h.2
      refine hre ?_ _ _ _ h v
      intro σ32 h v
      refine ⟨h.1, ?_⟩
      have v := v h.1
      have h := h.2
      refine jcX5_pass ?_ _ _ _ h v
      intro σ34 h v
      exact hQ _ h v
  · have h := h.2
    have v := v.2
    intro e18
    have h := h e18
    have v := v e18
    refine ⟨h.1, ?_⟩
    have v := v h.1
    have h := h.2
    refine jcX5_fail ?_ _ _ _ h v
    intro σ36 h v
    exact hQ _ h v
set_option maxRecDepth 100000 in
set_option maxHeartbeats 4000000 in
theorem jaX5_readPart {re re' : Nat → Int32 → kx_S → (kx_S → Prop) → Prop} (hre : ∀ {P P' : kx_S → Prop}, (∀ y0, P y0 → P' y0) → ∀ (x0 : Nat) (x1 : Int32) (x2 : kx_S), re x0 x1 x2 P → re' x0 x1 x2 P') {Q Q' : kx_S → Prop} (hQ : ∀ y0, Q y0 → Q' y0) : ∀ (l0 : Nat) (l1 : Int32) (σ : kx_S), wX5_readPart re l0 l1 σ Q → vX5_readPart re' l0 l1 σ Q' := by
  intro l0 l1 σ h
  unfold wX5_readPart at h
  unfold vX5_readPart
  intro e1
  have h := h.2
  refine jaX5_faultOfPart ?_ _ _ h
  intro r9 σ8 h
  refine ⟨?_, ?_⟩
  · have h := h.1
    intro e2
    have h := h e2
    intro e3
    have h := h.2
    obtain ⟨a13', e4, h⟩ := h
    intro a13 e5
    have x9 : a13' = a13 := Option.some.inj (e4.symm.trans e5)
    rw [x9] at h
    intro e6
    have h := h.2
    refine ⟨?_, ?_⟩
    · have h := h.1
      intro e7
      have h := h e7
      obtain ⟨a17', e8, h⟩ := h
      intro a17 e9
      have x9 : a17' = a17 := Option.some.inj (e8.symm.trans e9)
      rw [x9] at h
      intro e10
      have h := h.2
      refine ⟨?_, ?_⟩
      · have h := h.1
        intro e11
        have h := h e11
        refine jaX5_codeOfName ?_ _ _ h
        intro r22 σ21 h
        exact jaX5_readPart_78 hre hQ _ _ _ _ h
      · have h := h.2
        intro e12
        have h := h e12
        obtain ⟨a23', e13, h⟩ := h
        intro a23 e14
        have x9 : a23' = a23 := Option.some.inj (e13.symm.trans e14)
        rw [x9] at h
        intro e15
        have h := h.2
        refine jaX10_numberValue ?_ _ _ h
        intro r26 σ25 h
        exact jaX5_readPart_78 hre hQ _ _ _ _ h
    · have h := h.2
      intro e16
      have h := h e16
      obtain ⟨a28', e17, h⟩ := h
      intro a28 e18
      have x9 : a28' = a28 := Option.some.inj (e17.symm.trans e18)
      rw [x9] at h
      intro e19
      have h := h.2
      refine jaX10_advance ?_ _ _ h
      intro σ30 h
      intro e20
      have h := h.2
      refine hre ?_ _ _ _ h
      intro σ32 h
      intro e21
      have h := h.2
      refine jaX5_pass ?_ _ _ _ h
      intro σ34 h
      exact hQ _ h
  · have h := h.2
    intro e22
    have h := h e22
    intro e23
    have h := h.2
    refine jaX5_fail ?_ _ _ _ h
    intro σ36 h
    exact hQ _ h
set_option maxRecDepth 100000 in
set_option maxHeartbeats 4000000 in
theorem jfX5_readPart {I : kx_S → Prop} (W : fw_ I [114, 115, 116, 194, 195, 196, 1001]) {re : Nat → Int32 → kx_S → (kx_S → Prop) → Prop} (hre : ∀ {P : kx_S → Prop}, (∀ y0, I y0 → P y0) → ∀ (x0 : Nat) (x1 : Int32) (x2 : kx_S), I x2 → re x0 x1 x2 P) {Q : kx_S → Prop} (hQ : ∀ y0, I y0 → Q y0) : ∀ (l0 : Nat) (l1 : Int32) (σ : kx_S), I σ → vX5_readPart re l0 l1 σ Q := by
  intro l0 l1 σ i
  unfold vX5_readPart
  intro e1
  refine jfX5_faultOfPart (I := I) (fw_sub W (by decide)) ?_ _ _ i
  intro r9 σ8 iσ8
  refine ⟨?_, ?_⟩
  · intro e2
    intro e3
    intro a13 e4
    intro e5
    refine ⟨?_, ?_⟩
    · intro e6
      intro a17 e7
      intro e8
      refine ⟨?_, ?_⟩
      · intro e9
        refine jfX5_codeOfName (I := I) (fw_sub W (by decide)) ?_ _ _ iσ8
        intro r22 σ21 iσ21
        exact jfX5_readPart_78 (I := I) (fw_sub W (by decide)) hre hQ _ _ _ _ iσ21
      · intro e10
        intro a23 e11
        intro e12
        refine jfX10_numberValue (I := I) (fw_sub W (by decide)) ?_ _ _ iσ8
        intro r26 σ25 iσ25
        exact jfX5_readPart_78 (I := I) (fw_sub W (by decide)) hre hQ _ _ _ _ iσ25
    · intro e13
      intro a28 e14
      intro e15
      refine jfX10_advance (I := I) (fw_sub W (by decide)) ?_ _ _ iσ8
      intro σ30 iσ30
      intro e16
      refine hre ?_ _ _ _ iσ30
      intro σ32 iσ32
      intro e17
      refine jfX5_pass (I := I) (fw_sub W (by decide)) ?_ _ _ _ iσ32
      intro σ34 iσ34
      exact hQ _ iσ34
  · intro e18
    intro e19
    refine jfX5_fail (I := I) (fw_sub W (by decide)) ?_ _ _ _ iσ8
    intro σ36 iσ36
    exact hQ _ iσ36
def vX5_readTerm_68 (re : Nat → Int32 → kx_S → (kx_S → Prop) → Prop) (k7 : Nat → Int32 → Int32 → kx_S → Prop) (Q : kx_S → Prop) (l0 : Nat) (l1 : Int32) (l2 : Int32) (s0 : Int32) (s1 : Nat) (σ : kx_S) : Prop := xt σ s1 = 7 → vX5_put s1 s0 σ (fun σ1 => ∀ v3 : Int32, v3 = l2 + 1 → k7 l0 l1 v3 σ1)
set_option maxRecDepth 100000 in
set_option maxHeartbeats 4000000 in
theorem jcX5_readTerm_68 {re re' : Nat → Int32 → kx_S → (kx_S → Prop) → Prop} (hre : ∀ {P P' P'' : kx_S → Prop}, (∀ y0, P y0 → P' y0 → P'' y0) → ∀ (x0 : Nat) (x1 : Int32) (x2 : kx_S), re x0 x1 x2 P → re' x0 x1 x2 P' → re x0 x1 x2 P'') {k7 k7' k7'' : Nat → Int32 → Int32 → kx_S → Prop} (hk7 : ∀ y0 y1 y2 y3, k7 y0 y1 y2 y3 → k7' y0 y1 y2 y3 → k7'' y0 y1 y2 y3) {Q Q' Q'' : kx_S → Prop} (hQ : ∀ y0, Q y0 → Q' y0 → Q'' y0) : ∀ (l0 : Nat) (l1 : Int32) (l2 : Int32) (s0 : Int32) (s1 : Nat) (σ : kx_S), wX5_readTerm_68 re k7 Q l0 l1 l2 s0 s1 σ → vX5_readTerm_68 re' k7' Q' l0 l1 l2 s0 s1 σ → wX5_readTerm_68 re k7'' Q'' l0 l1 l2 s0 s1 σ := by
  intro l0 l1 l2 s0 s1 σ h v
  unfold wX5_readTerm_68 at h
  unfold vX5_readTerm_68 at v
  unfold wX5_readTerm_68
  refine ⟨h.1, ?_⟩
  have v := v h.1
  have h := h.2
  refine jcX5_put ?_ _ _ _ h v
  intro σ1 h v
  intro v3 e2
  have h := h v3 e2
  have v := v v3 e2
  exact hk7 _ _ _ _ h v
set_option maxRecDepth 100000 in
set_option maxHeartbeats 4000000 in
theorem jaX5_readTerm_68 {re re' : Nat → Int32 → kx_S → (kx_S → Prop) → Prop} (hre : ∀ {P P' : kx_S → Prop}, (∀ y0, P y0 → P' y0) → ∀ (x0 : Nat) (x1 : Int32) (x2 : kx_S), re x0 x1 x2 P → re' x0 x1 x2 P') {k7 k7' : Nat → Int32 → Int32 → kx_S → Prop} (hk7 : ∀ y0 y1 y2 y3, k7 y0 y1 y2 y3 → k7' y0 y1 y2 y3) {Q Q' : kx_S → Prop} (hQ : ∀ y0, Q y0 → Q' y0) : ∀ (l0 : Nat) (l1 : Int32) (l2 : Int32) (s0 : Int32) (s1 : Nat) (σ : kx_S), wX5_readTerm_68 re k7 Q l0 l1 l2 s0 s1 σ → vX5_readTerm_68 re' k7' Q' l0 l1 l2 s0 s1 σ := by
  intro l0 l1 l2 s0 s1 σ h
  unfold wX5_readTerm_68 at h
  unfold vX5_readTerm_68
  intro e1
  have h := h.2
  refine jaX5_put ?_ _ _ _ h
  intro σ1 h
  intro v3 e2
  have h := h v3 e2
  exact hk7 _ _ _ _ h
set_option maxRecDepth 100000 in
set_option maxHeartbeats 4000000 in
theorem jfX5_readTerm_68 {I : kx_S → Prop} (W : fw_ I [114, 115, 116, 194, 195, 196, 1001]) {re : Nat → Int32 → kx_S → (kx_S → Prop) → Prop} (hre : ∀ {P : kx_S → Prop}, (∀ y0, I y0 → P y0) → ∀ (x0 : Nat) (x1 : Int32) (x2 : kx_S), I x2 → re x0 x1 x2 P) {k7 : Nat → Int32 → Int32 → kx_S → Prop} (hk7 : ∀ y0 y1 y2 y3, I y3 → k7 y0 y1 y2 y3) {Q : kx_S → Prop} (hQ : ∀ y0, I y0 → Q y0) : ∀ (l0 : Nat) (l1 : Int32) (l2 : Int32) (s0 : Int32) (s1 : Nat) (σ : kx_S), I σ → vX5_readTerm_68 re k7 Q l0 l1 l2 s0 s1 σ := by
  intro l0 l1 l2 s0 s1 σ i
  unfold vX5_readTerm_68
  intro e1
  refine jfX5_put (I := I) (fw_sub W (by decide)) ?_ _ _ _ i
  intro σ1 iσ1
  intro v3 e2
  exact hk7 _ _ _ _ iσ1

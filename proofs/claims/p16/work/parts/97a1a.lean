/-! the reference: what is so of every end that is safe -/
def gw_ (I : km_S → Prop) (W : List Nat) : Prop := ∀ u, I u → ∀ f, f ∈ W → (∀ v, I (km_si u f v)) ∧ (∀ i v, I (km_sa u f i v)) ∧ (∀ v, I (km_sl u f v)) ∧ ∀ i v, I (km_sp u i v)
theorem gw_sub {I : km_S → Prop} {W V : List Nat} (h : gw_ I W) (s : ∀ f ∈ V, f ∈ W) : gw_ I V := fun u i f hf => h u i f (s f hf)

def vX12_thrown (μ : km_S) (Q : Int32 → km_S → Prop) : Prop := Q (km_i μ 1) μ
set_option maxRecDepth 100000 in
set_option maxHeartbeats 4000000 in
theorem jcX12_thrown {Q Q' Q'' : Int32 → km_S → Prop} (hQ : ∀ y0 y1, Q y0 y1 → Q' y0 y1 → Q'' y0 y1) : ∀ (μ : km_S), wX12_thrown μ Q → vX12_thrown μ Q' → wX12_thrown μ Q'' := by
  intro μ h v
  unfold wX12_thrown at h
  unfold vX12_thrown at v
  unfold wX12_thrown
  exact hQ _ _ h v
set_option maxRecDepth 100000 in
set_option maxHeartbeats 4000000 in
theorem jaX12_thrown {Q Q' : Int32 → km_S → Prop} (hQ : ∀ y0 y1, Q y0 y1 → Q' y0 y1) : ∀ (μ : km_S), wX12_thrown μ Q → vX12_thrown μ Q' := by
  intro μ h
  unfold wX12_thrown at h
  unfold vX12_thrown
  exact hQ _ _ h
set_option maxRecDepth 100000 in
set_option maxHeartbeats 4000000 in
theorem jfX12_thrown {I : km_S → Prop} (W : gw_ I []) {Q : Int32 → km_S → Prop} (hQ : ∀ y0 y1, I y1 → Q y0 y1) : ∀ (μ : km_S), I μ → vX12_thrown μ Q := by
  intro μ i
  unfold vX12_thrown
  exact hQ _ _ i
def vX12_fail (μ : km_S) (Q : Int32 → km_S → Prop) : Prop := ∀ μ1, μ1 = km_si μ 1 1 → Q 0 μ1
set_option maxRecDepth 100000 in
set_option maxHeartbeats 4000000 in
theorem jcX12_fail {Q Q' Q'' : Int32 → km_S → Prop} (hQ : ∀ y0 y1, Q y0 y1 → Q' y0 y1 → Q'' y0 y1) : ∀ (μ : km_S), wX12_fail μ Q → vX12_fail μ Q' → wX12_fail μ Q'' := by
  intro μ h v
  unfold wX12_fail at h
  unfold vX12_fail at v
  unfold wX12_fail
  intro μ1 e1
  have h := h μ1 e1
  have v := v μ1 e1
  exact hQ _ _ h v
set_option maxRecDepth 100000 in
set_option maxHeartbeats 4000000 in
theorem jaX12_fail {Q Q' : Int32 → km_S → Prop} (hQ : ∀ y0 y1, Q y0 y1 → Q' y0 y1) : ∀ (μ : km_S), wX12_fail μ Q → vX12_fail μ Q' := by
  intro μ h
  unfold wX12_fail at h
  unfold vX12_fail
  intro μ1 e1
  have h := h μ1 e1
  exact hQ _ _ h
set_option maxRecDepth 100000 in
set_option maxHeartbeats 4000000 in
theorem jfX12_fail {I : km_S → Prop} (W : gw_ I [1]) {Q : Int32 → km_S → Prop} (hQ : ∀ y0 y1, I y1 → Q y0 y1) : ∀ (μ : km_S), I μ → vX12_fail μ Q := by
  intro μ i
  unfold vX12_fail
  intro μ1 e1
  have iμ1 : I μ1 := by rw [e1]; exact ((W _ i) 1 (by decide)).1 _
  exact hQ _ _ iμ1
def vX12_isReach (l1 : Int32) (μ : km_S) (Q : Int32 → km_S → Prop) : Prop := ((l1 < 0 → Q 0 μ) ∧ (¬ (l1 < 0) → (((km_i μ 3) ≤ l1 → Q 0 μ) ∧ (¬ ((km_i μ 3) ≤ l1) → Q 1 μ))))
set_option maxRecDepth 100000 in
set_option maxHeartbeats 4000000 in
theorem jcX12_isReach {Q Q' Q'' : Int32 → km_S → Prop} (hQ : ∀ y0 y1, Q y0 y1 → Q' y0 y1 → Q'' y0 y1) : ∀ (l1 : Int32) (μ : km_S), wX12_isReach l1 μ Q → vX12_isReach l1 μ Q' → wX12_isReach l1 μ Q'' := by
  intro l1 μ h v
  unfold wX12_isReach at h
  unfold vX12_isReach at v
  unfold wX12_isReach
  refine ⟨?_, ?_⟩
  · have h := h.1
    have v := v.1
    intro e1
    have h := h e1
    have v := v e1
    exact hQ _ _ h v
  · have h := h.2
    have v := v.2
    intro e2
    have h := h e2
    have v := v e2
    refine ⟨?_, ?_⟩
    · have h := h.1
      have v := v.1
      intro e3
      have h := h e3
      have v := v e3
      exact hQ _ _ h v
    · have h := h.2
      have v := v.2
      intro e4
      have h := h e4
      have v := v e4
      exact hQ _ _ h v
set_option maxRecDepth 100000 in
set_option maxHeartbeats 4000000 in
theorem jaX12_isReach {Q Q' : Int32 → km_S → Prop} (hQ : ∀ y0 y1, Q y0 y1 → Q' y0 y1) : ∀ (l1 : Int32) (μ : km_S), wX12_isReach l1 μ Q → vX12_isReach l1 μ Q' := by
  intro l1 μ h
  unfold wX12_isReach at h
  unfold vX12_isReach
  refine ⟨?_, ?_⟩
  · have h := h.1
    intro e1
    have h := h e1
    exact hQ _ _ h
  · have h := h.2
    intro e2
    have h := h e2
    refine ⟨?_, ?_⟩
    · have h := h.1
      intro e3
      have h := h e3
      exact hQ _ _ h
    · have h := h.2
      intro e4
      have h := h e4
      exact hQ _ _ h
set_option maxRecDepth 100000 in
set_option maxHeartbeats 4000000 in
theorem jfX12_isReach {I : km_S → Prop} (W : gw_ I []) {Q : Int32 → km_S → Prop} (hQ : ∀ y0 y1, I y1 → Q y0 y1) : ∀ (l1 : Int32) (μ : km_S), I μ → vX12_isReach l1 μ Q := by
  intro l1 μ i
  unfold vX12_isReach
  refine ⟨?_, ?_⟩
  · intro e1
    exact hQ _ _ i
  · intro e2
    refine ⟨?_, ?_⟩
    · intro e3
      exact hQ _ _ i
    · intro e4
      exact hQ _ _ i
def vX12_at0 (l0 : Int32) (l1 : Int32) (μ : km_S) (Q : Int32 → km_S → Prop) : Prop := Q ((12 * l0) + l1) μ
set_option maxRecDepth 100000 in
set_option maxHeartbeats 4000000 in
theorem jcX12_at0 {Q Q' Q'' : Int32 → km_S → Prop} (hQ : ∀ y0 y1, Q y0 y1 → Q' y0 y1 → Q'' y0 y1) : ∀ (l0 : Int32) (l1 : Int32) (μ : km_S), wX12_at0 l0 l1 μ Q → vX12_at0 l0 l1 μ Q' → wX12_at0 l0 l1 μ Q'' := by
  intro l0 l1 μ h v
  unfold wX12_at0 at h
  unfold vX12_at0 at v
  unfold wX12_at0
  exact hQ _ _ h v
set_option maxRecDepth 100000 in
set_option maxHeartbeats 4000000 in
theorem jaX12_at0 {Q Q' : Int32 → km_S → Prop} (hQ : ∀ y0 y1, Q y0 y1 → Q' y0 y1) : ∀ (l0 : Int32) (l1 : Int32) (μ : km_S), wX12_at0 l0 l1 μ Q → vX12_at0 l0 l1 μ Q' := by
  intro l0 l1 μ h
  unfold wX12_at0 at h
  unfold vX12_at0
  exact hQ _ _ h
set_option maxRecDepth 100000 in
set_option maxHeartbeats 4000000 in
theorem jfX12_at0 {I : km_S → Prop} (W : gw_ I []) {Q : Int32 → km_S → Prop} (hQ : ∀ y0 y1, I y1 → Q y0 y1) : ∀ (l0 : Int32) (l1 : Int32) (μ : km_S), I μ → vX12_at0 l0 l1 μ Q := by
  intro l0 l1 μ i
  unfold vX12_at0
  exact hQ _ _ i
def vX12_isLog (l1 : Int32) (μ : km_S) (Q : Int32 → km_S → Prop) : Prop := ((l1 < 0 → Q 0 μ) ∧ (¬ (l1 < 0) → (((km_i μ 4) ≤ l1 → Q 0 μ) ∧ (¬ ((km_i μ 4) ≤ l1) → Q 1 μ))))
set_option maxRecDepth 100000 in
set_option maxHeartbeats 4000000 in
theorem jcX12_isLog {Q Q' Q'' : Int32 → km_S → Prop} (hQ : ∀ y0 y1, Q y0 y1 → Q' y0 y1 → Q'' y0 y1) : ∀ (l1 : Int32) (μ : km_S), wX12_isLog l1 μ Q → vX12_isLog l1 μ Q' → wX12_isLog l1 μ Q'' := by
  intro l1 μ h v
  unfold wX12_isLog at h
  unfold vX12_isLog at v
  unfold wX12_isLog
  refine ⟨?_, ?_⟩
  · have h := h.1
    have v := v.1
    intro e1
    have h := h e1
    have v := v e1
    exact hQ _ _ h v
  · have h := h.2
    have v := v.2
    intro e2
    have h := h e2
    have v := v e2
    refine ⟨?_, ?_⟩
    · have h := h.1
      have v := v.1
      intro e3
      have h := h e3
      have v := v e3
      exact hQ _ _ h v
    · have h := h.2
      have v := v.2
      intro e4
      have h := h e4
      have v := v e4
      exact hQ _ _ h v
set_option maxRecDepth 100000 in
set_option maxHeartbeats 4000000 in
theorem jaX12_isLog {Q Q' : Int32 → km_S → Prop} (hQ : ∀ y0 y1, Q y0 y1 → Q' y0 y1) : ∀ (l1 : Int32) (μ : km_S), wX12_isLog l1 μ Q → vX12_isLog l1 μ Q' := by
  intro l1 μ h
  unfold wX12_isLog at h
  unfold vX12_isLog
  refine ⟨?_, ?_⟩
  · have h := h.1
    intro e1
    have h := h e1
    exact hQ _ _ h
  · have h := h.2
    intro e2
    have h := h e2
    refine ⟨?_, ?_⟩
    · have h := h.1
      intro e3
      have h := h e3
      exact hQ _ _ h
    · have h := h.2
      intro e4
      have h := h e4
      exact hQ _ _ h
set_option maxRecDepth 100000 in
set_option maxHeartbeats 4000000 in
theorem jfX12_isLog {I : km_S → Prop} (W : gw_ I []) {Q : Int32 → km_S → Prop} (hQ : ∀ y0 y1, I y1 → Q y0 y1) : ∀ (l1 : Int32) (μ : km_S), I μ → vX12_isLog l1 μ Q := by
  intro l1 μ i
  unfold vX12_isLog
  refine ⟨?_, ?_⟩
  · intro e1
    exact hQ _ _ i
  · intro e2
    refine ⟨?_, ?_⟩
    · intro e3
      exact hQ _ _ i
    · intro e4
      exact hQ _ _ i
def vX12_isCell (l1 : Int32) (l2 : Int32) (μ : km_S) (Q : Int32 → km_S → Prop) : Prop := vX12_isReach l1 μ (fun r2 μ1 => ((r2 = 0 → Q 0 μ1) ∧ (¬ (r2 = 0) → ((l2 < 0 → Q 0 μ1) ∧ (¬ (l2 < 0) → vp_in l1 10 → (((km_a μ1 14 l1.toNatClampNeg) ≤ l2 → Q 0 μ1) ∧ (¬ ((km_a μ1 14 l1.toNatClampNeg) ≤ l2) → Q 1 μ1)))))))
set_option maxRecDepth 100000 in
set_option maxHeartbeats 4000000 in
theorem jcX12_isCell {Q Q' Q'' : Int32 → km_S → Prop} (hQ : ∀ y0 y1, Q y0 y1 → Q' y0 y1 → Q'' y0 y1) : ∀ (l1 : Int32) (l2 : Int32) (μ : km_S), wX12_isCell l1 l2 μ Q → vX12_isCell l1 l2 μ Q' → wX12_isCell l1 l2 μ Q'' := by
  intro l1 l2 μ h v
  unfold wX12_isCell at h
  unfold vX12_isCell at v
  unfold wX12_isCell
  refine jcX12_isReach ?_ _ _ h v
  intro r2 μ1 h v
  refine ⟨?_, ?_⟩
  · have h := h.1
    have v := v.1
    intro e1
    have h := h e1
    have v := v e1
    exact hQ _ _ h v
  · have h := h.2
    have v := v.2
    intro e2
    have h := h e2
    have v := v e2
    refine ⟨?_, ?_⟩
    · have h := h.1
      have v := v.1
      intro e3
      have h := h e3
      have v := v e3
      exact hQ _ _ h v
    · have h := h.2
      have v := v.2
      intro e4
      have h := h e4
      have v := v e4
      refine ⟨h.1, ?_⟩
      have v := v h.1
      have h := h.2
      refine ⟨?_, ?_⟩
      · have h := h.1
        have v := v.1
        intro e6
        have h := h e6
        have v := v e6
        exact hQ _ _ h v
      · have h := h.2
        have v := v.2
        intro e7
        have h := h e7
        have v := v e7
        exact hQ _ _ h v
set_option maxRecDepth 100000 in
set_option maxHeartbeats 4000000 in
theorem jaX12_isCell {Q Q' : Int32 → km_S → Prop} (hQ : ∀ y0 y1, Q y0 y1 → Q' y0 y1) : ∀ (l1 : Int32) (l2 : Int32) (μ : km_S), wX12_isCell l1 l2 μ Q → vX12_isCell l1 l2 μ Q' := by
  intro l1 l2 μ h
  unfold wX12_isCell at h
  unfold vX12_isCell
  refine jaX12_isReach ?_ _ _ h
  intro r2 μ1 h
  refine ⟨?_, ?_⟩
  · have h := h.1
    intro e1
    have h := h e1
    exact hQ _ _ h
  · have h := h.2
    intro e2
    have h := h e2
    refine ⟨?_, ?_⟩
    · have h := h.1
      intro e3
      have h := h e3
      exact hQ _ _ h
    · have h := h.2
      intro e4
      have h := h e4
      intro e5
      have h := h.2
      refine ⟨?_, ?_⟩
      · have h := h.1
        intro e6
        have h := h e6
        exact hQ _ _ h
      · have h := h.2
        intro e7
        have h := h e7
        exact hQ _ _ h
set_option maxRecDepth 100000 in
set_option maxHeartbeats 4000000 in
theorem jfX12_isCell {I : km_S → Prop} (W : gw_ I []) {Q : Int32 → km_S → Prop} (hQ : ∀ y0 y1, I y1 → Q y0 y1) : ∀ (l1 : Int32) (l2 : Int32) (μ : km_S), I μ → vX12_isCell l1 l2 μ Q := by
  intro l1 l2 μ i
  unfold vX12_isCell
  refine jfX12_isReach (I := I) (gw_sub W (by decide)) ?_ _ _ i
  intro r2 μ1 iμ1
  refine ⟨?_, ?_⟩
  · intro e1
    exact hQ _ _ iμ1
  · intro e2
    refine ⟨?_, ?_⟩
    · intro e3
      exact hQ _ _ iμ1
    · intro e4
      intro e5
      refine ⟨?_, ?_⟩
      · intro e6
        exact hQ _ _ iμ1
      · intro e7
        exact hQ _ _ iμ1
def vX12_isLetter (l0 : Int32) (μ : km_S) (Q : Int32 → km_S → Prop) : Prop := ((l0 < 97 → Q 0 μ) ∧ (¬ (l0 < 97) → ((122 < l0 → Q 0 μ) ∧ (¬ (122 < l0) → Q 1 μ))))
set_option maxRecDepth 100000 in
set_option maxHeartbeats 4000000 in
theorem jcX12_isLetter {Q Q' Q'' : Int32 → km_S → Prop} (hQ : ∀ y0 y1, Q y0 y1 → Q' y0 y1 → Q'' y0 y1) : ∀ (l0 : Int32) (μ : km_S), wX12_isLetter l0 μ Q → vX12_isLetter l0 μ Q' → wX12_isLetter l0 μ Q'' := by
  intro l0 μ h v
  unfold wX12_isLetter at h
  unfold vX12_isLetter at v
  unfold wX12_isLetter
  refine ⟨?_, ?_⟩
  · have h := h.1
    have v := v.1
    intro e1
    have h := h e1
    have v := v e1
    exact hQ _ _ h v
  · have h := h.2
    have v := v.2
    intro e2
    have h := h e2
    have v := v e2
    refine ⟨?_, ?_⟩
    · have h := h.1
      have v := v.1
      intro e3
      have h := h e3
      have v := v e3
      exact hQ _ _ h v
    · have h := h.2
      have v := v.2
      intro e4
      have h := h e4
      have v := v e4
      exact hQ _ _ h v
set_option maxRecDepth 100000 in
set_option maxHeartbeats 4000000 in
theorem jaX12_isLetter {Q Q' : Int32 → km_S → Prop} (hQ : ∀ y0 y1, Q y0 y1 → Q' y0 y1) : ∀ (l0 : Int32) (μ : km_S), wX12_isLetter l0 μ Q → vX12_isLetter l0 μ Q' := by
  intro l0 μ h
  unfold wX12_isLetter at h
  unfold vX12_isLetter
  refine ⟨?_, ?_⟩
  · have h := h.1
    intro e1
    have h := h e1
    exact hQ _ _ h
  · have h := h.2
    intro e2
    have h := h e2
    refine ⟨?_, ?_⟩
    · have h := h.1
      intro e3
      have h := h e3
      exact hQ _ _ h
    · have h := h.2
      intro e4
      have h := h e4
      exact hQ _ _ h
set_option maxRecDepth 100000 in
set_option maxHeartbeats 4000000 in
theorem jfX12_isLetter {I : km_S → Prop} (W : gw_ I []) {Q : Int32 → km_S → Prop} (hQ : ∀ y0 y1, I y1 → Q y0 y1) : ∀ (l0 : Int32) (μ : km_S), I μ → vX12_isLetter l0 μ Q := by
  intro l0 μ i
  unfold vX12_isLetter
  refine ⟨?_, ?_⟩
  · intro e1
    exact hQ _ _ i
  · intro e2
    refine ⟨?_, ?_⟩
    · intro e3
      exact hQ _ _ i
    · intro e4
      exact hQ _ _ i
def vX12_isDigit (l0 : Int32) (μ : km_S) (Q : Int32 → km_S → Prop) : Prop := ((l0 < 48 → Q 0 μ) ∧ (¬ (l0 < 48) → ((57 < l0 → Q 0 μ) ∧ (¬ (57 < l0) → Q 1 μ))))
set_option maxRecDepth 100000 in
set_option maxHeartbeats 4000000 in
theorem jcX12_isDigit {Q Q' Q'' : Int32 → km_S → Prop} (hQ : ∀ y0 y1, Q y0 y1 → Q' y0 y1 → Q'' y0 y1) : ∀ (l0 : Int32) (μ : km_S), wX12_isDigit l0 μ Q → vX12_isDigit l0 μ Q' → wX12_isDigit l0 μ Q'' := by
  intro l0 μ h v
  unfold wX12_isDigit at h
  unfold vX12_isDigit at v
  unfold wX12_isDigit
  refine ⟨?_, ?_⟩
  · have h := h.1
    have v := v.1
    intro e1
    have h := h e1
    have v := v e1
    exact hQ _ _ h v
  · have h := h.2
    have v := v.2
    intro e2
    have h := h e2
    have v := v e2
    refine ⟨?_, ?_⟩
    · have h := h.1
      have v := v.1
      intro e3
      have h := h e3
      have v := v e3
      exact hQ _ _ h v
    · have h := h.2
      have v := v.2
      intro e4
      have h := h e4
      have v := v e4
      exact hQ _ _ h v
set_option maxRecDepth 100000 in
set_option maxHeartbeats 4000000 in
theorem jaX12_isDigit {Q Q' : Int32 → km_S → Prop} (hQ : ∀ y0 y1, Q y0 y1 → Q' y0 y1) : ∀ (l0 : Int32) (μ : km_S), wX12_isDigit l0 μ Q → vX12_isDigit l0 μ Q' := by
  intro l0 μ h
  unfold wX12_isDigit at h
  unfold vX12_isDigit
  refine ⟨?_, ?_⟩
  · have h := h.1
    intro e1
    have h := h e1
    exact hQ _ _ h
  · have h := h.2
    intro e2
    have h := h e2
    refine ⟨?_, ?_⟩
    · have h := h.1
      intro e3
      have h := h e3
      exact hQ _ _ h
    · have h := h.2
      intro e4
      have h := h e4
      exact hQ _ _ h
set_option maxRecDepth 100000 in
set_option maxHeartbeats 4000000 in
theorem jfX12_isDigit {I : km_S → Prop} (W : gw_ I []) {Q : Int32 → km_S → Prop} (hQ : ∀ y0 y1, I y1 → Q y0 y1) : ∀ (l0 : Int32) (μ : km_S), I μ → vX12_isDigit l0 μ Q := by
  intro l0 μ i
  unfold vX12_isDigit
  refine ⟨?_, ?_⟩
  · intro e1
    exact hQ _ _ i
  · intro e2
    refine ⟨?_, ?_⟩
    · intro e3
      exact hQ _ _ i
    · intro e4
      exact hQ _ _ i
def vX12_byteAt (l1 : Int32) (μ : km_S) (Q : Int32 → km_S → Prop) : Prop := (((km_i μ 61) ≤ l1 → Q (-1) μ) ∧ (¬ ((km_i μ 61) ≤ l1) → vp_in l1 500 → Q (km_a μ 52 l1.toNatClampNeg) μ))
set_option maxRecDepth 100000 in
set_option maxHeartbeats 4000000 in
theorem jcX12_byteAt {Q Q' Q'' : Int32 → km_S → Prop} (hQ : ∀ y0 y1, Q y0 y1 → Q' y0 y1 → Q'' y0 y1) : ∀ (l1 : Int32) (μ : km_S), wX12_byteAt l1 μ Q → vX12_byteAt l1 μ Q' → wX12_byteAt l1 μ Q'' := by
  intro l1 μ h v
  unfold wX12_byteAt at h
  unfold vX12_byteAt at v
  unfold wX12_byteAt
  refine ⟨?_, ?_⟩
  · have h := h.1
    have v := v.1
    intro e1
    have h := h e1
    have v := v e1
    exact hQ _ _ h v
  · have h := h.2
    have v := v.2
    intro e2
    have h := h e2
    have v := v e2
    refine ⟨h.1, ?_⟩
    have v := v h.1
    have h := h.2
    exact hQ _ _ h v
set_option maxRecDepth 100000 in
set_option maxHeartbeats 4000000 in
theorem jaX12_byteAt {Q Q' : Int32 → km_S → Prop} (hQ : ∀ y0 y1, Q y0 y1 → Q' y0 y1) : ∀ (l1 : Int32) (μ : km_S), wX12_byteAt l1 μ Q → vX12_byteAt l1 μ Q' := by
  intro l1 μ h
  unfold wX12_byteAt at h
  unfold vX12_byteAt
  refine ⟨?_, ?_⟩
  · have h := h.1
    intro e1
    have h := h e1
    exact hQ _ _ h
  · have h := h.2
    intro e2
    have h := h e2
    intro e3
    have h := h.2
    exact hQ _ _ h
set_option maxRecDepth 100000 in
set_option maxHeartbeats 4000000 in
theorem jfX12_byteAt {I : km_S → Prop} (W : gw_ I []) {Q : Int32 → km_S → Prop} (hQ : ∀ y0 y1, I y1 → Q y0 y1) : ∀ (l1 : Int32) (μ : km_S), I μ → vX12_byteAt l1 μ Q := by
  intro l1 μ i
  unfold vX12_byteAt
  refine ⟨?_, ?_⟩
  · intro e1
    exact hQ _ _ i
  · intro e2
    intro e3
    exact hQ _ _ i
def vX12_isSign (l1 : Int32) (μ : km_S) (Q : Int32 → km_S → Prop) : Prop := ((¬ (km_i μ 62) = 3 → Q 0 μ) ∧ ((km_i μ 62) = 3 → ((¬ (km_i μ 63) = l1 → Q 0 μ) ∧ ((km_i μ 63) = l1 → Q 1 μ))))
set_option maxRecDepth 100000 in
set_option maxHeartbeats 4000000 in
theorem jcX12_isSign {Q Q' Q'' : Int32 → km_S → Prop} (hQ : ∀ y0 y1, Q y0 y1 → Q' y0 y1 → Q'' y0 y1) : ∀ (l1 : Int32) (μ : km_S), wX12_isSign l1 μ Q → vX12_isSign l1 μ Q' → wX12_isSign l1 μ Q'' := by
  intro l1 μ h v
  unfold wX12_isSign at h
  unfold vX12_isSign at v
  unfold wX12_isSign
  refine ⟨?_, ?_⟩
  · have h := h.1
    have v := v.1
    intro e1
    have h := h e1
    have v := v e1
    exact hQ _ _ h v
  · have h := h.2
    have v := v.2
    intro e2
    have h := h e2
    have v := v e2
    refine ⟨?_, ?_⟩
    · have h := h.1
      have v := v.1
      intro e3
      have h := h e3
      have v := v e3
      exact hQ _ _ h v
    · have h := h.2
      have v := v.2
      intro e4
      have h := h e4
      have v := v e4
      exact hQ _ _ h v
set_option maxRecDepth 100000 in
set_option maxHeartbeats 4000000 in
theorem jaX12_isSign {Q Q' : Int32 → km_S → Prop} (hQ : ∀ y0 y1, Q y0 y1 → Q' y0 y1) : ∀ (l1 : Int32) (μ : km_S), wX12_isSign l1 μ Q → vX12_isSign l1 μ Q' := by
  intro l1 μ h
  unfold wX12_isSign at h
  unfold vX12_isSign
  refine ⟨?_, ?_⟩
  · have h := h.1
    intro e1
    have h := h e1
    exact hQ _ _ h
  · have h := h.2
    intro e2
    have h := h e2
    refine ⟨?_, ?_⟩
    · have h := h.1
      intro e3
      have h := h e3
      exact hQ _ _ h
    · have h := h.2
      intro e4
      have h := h e4
      exact hQ _ _ h
set_option maxRecDepth 100000 in
set_option maxHeartbeats 4000000 in
theorem jfX12_isSign {I : km_S → Prop} (W : gw_ I []) {Q : Int32 → km_S → Prop} (hQ : ∀ y0 y1, I y1 → Q y0 y1) : ∀ (l1 : Int32) (μ : km_S), I μ → vX12_isSign l1 μ Q := by
  intro l1 μ i
  unfold vX12_isSign
  refine ⟨?_, ?_⟩
  · intro e1
    exact hQ _ _ i
  · intro e2
    refine ⟨?_, ?_⟩
    · intro e3
      exact hQ _ _ i
    · intro e4
      exact hQ _ _ i
def vX12_wrong (l1 : Int32) (μ : km_S) (Q : km_S → Prop) : Prop := (((km_i μ 66) = 0 → ∀ μ2, μ2 = km_si μ 66 l1 → ∀ μ3, μ3 = km_si μ2 67 (km_i μ2 64) → Q μ3) ∧ (¬ ((km_i μ 66) = 0) → Q μ))
set_option maxRecDepth 100000 in
set_option maxHeartbeats 4000000 in
theorem jcX12_wrong {Q Q' Q'' : km_S → Prop} (hQ : ∀ y0, Q y0 → Q' y0 → Q'' y0) : ∀ (l1 : Int32) (μ : km_S), wX12_wrong l1 μ Q → vX12_wrong l1 μ Q' → wX12_wrong l1 μ Q'' := by
  intro l1 μ h v
  unfold wX12_wrong at h
  unfold vX12_wrong at v
  unfold wX12_wrong
  refine ⟨?_, ?_⟩
  · have h := h.1
    have v := v.1
    intro e1
    have h := h e1
    have v := v e1
    intro μ2 e2
    have h := h μ2 e2
    have v := v μ2 e2
    intro μ3 e3
    have h := h μ3 e3
    have v := v μ3 e3
    exact hQ _ h v
  · have h := h.2
    have v := v.2
    intro e4
    have h := h e4
    have v := v e4
    exact hQ _ h v
set_option maxRecDepth 100000 in
set_option maxHeartbeats 4000000 in
theorem jaX12_wrong {Q Q' : km_S → Prop} (hQ : ∀ y0, Q y0 → Q' y0) : ∀ (l1 : Int32) (μ : km_S), wX12_wrong l1 μ Q → vX12_wrong l1 μ Q' := by
  intro l1 μ h
  unfold wX12_wrong at h
  unfold vX12_wrong
  refine ⟨?_, ?_⟩
  · have h := h.1
    intro e1
    have h := h e1
    intro μ2 e2
    have h := h μ2 e2
    intro μ3 e3
    have h := h μ3 e3
    exact hQ _ h
  · have h := h.2
    intro e4
    have h := h e4
    exact hQ _ h
set_option maxRecDepth 100000 in
set_option maxHeartbeats 4000000 in
theorem jfX12_wrong {I : km_S → Prop} (W : gw_ I [66, 67]) {Q : km_S → Prop} (hQ : ∀ y0, I y0 → Q y0) : ∀ (l1 : Int32) (μ : km_S), I μ → vX12_wrong l1 μ Q := by
  intro l1 μ i
  unfold vX12_wrong
  refine ⟨?_, ?_⟩
  · intro e1
    intro μ2 e2
    have iμ2 : I μ2 := by rw [e2]; exact ((W _ i) 66 (by decide)).1 _
    intro μ3 e3
    have iμ3 : I μ3 := by rw [e3]; exact ((W _ iμ2) 67 (by decide)).1 _
    exact hQ _ iμ3
  · intro e4
    exact hQ _ i
def vX12_emit (l1 : Int32) (μ : km_S) (Q : km_S → Prop) : Prop := (((km_i μ 66) = 0 → vp_in ((900 * (km_i μ 5)) + (km_i μ 59)) 5400 → ∀ μ3, μ3 = km_sa μ 56 ((900 * (km_i μ 5)) + (km_i μ 59)).toNatClampNeg l1 → ∀ μ4, μ4 = km_si μ3 59 ((km_i μ3 59) + 1) → Q μ4) ∧ (¬ ((km_i μ 66) = 0) → Q μ))
set_option maxRecDepth 100000 in
set_option maxHeartbeats 4000000 in
theorem jcX12_emit {Q Q' Q'' : km_S → Prop} (hQ : ∀ y0, Q y0 → Q' y0 → Q'' y0) : ∀ (l1 : Int32) (μ : km_S), wX12_emit l1 μ Q → vX12_emit l1 μ Q' → wX12_emit l1 μ Q'' := by
  intro l1 μ h v
  unfold wX12_emit at h
  unfold vX12_emit at v
  unfold wX12_emit
  refine ⟨?_, ?_⟩
  · have h := h.1
    have v := v.1
    intro e1
    have h := h e1
    have v := v e1
    refine ⟨h.1, ?_⟩
    have v := v h.1
    have h := h.2
    intro μ3 e3
    have h := h μ3 e3
    have v := v μ3 e3
    intro μ4 e4
    have h := h μ4 e4
    have v := v μ4 e4
    exact hQ _ h v
  · have h := h.2
    have v := v.2
    intro e5
    have h := h e5
    have v := v e5
    exact hQ _ h v
set_option maxRecDepth 100000 in
set_option maxHeartbeats 4000000 in
theorem jaX12_emit {Q Q' : km_S → Prop} (hQ : ∀ y0, Q y0 → Q' y0) : ∀ (l1 : Int32) (μ : km_S), wX12_emit l1 μ Q → vX12_emit l1 μ Q' := by
  intro l1 μ h
  unfold wX12_emit at h
  unfold vX12_emit
  refine ⟨?_, ?_⟩
  · have h := h.1
    intro e1
    have h := h e1
    intro e2
    have h := h.2
    intro μ3 e3
    have h := h μ3 e3
    intro μ4 e4
    have h := h μ4 e4
    exact hQ _ h
  · have h := h.2
    intro e5
    have h := h e5
    exact hQ _ h
set_option maxRecDepth 100000 in
set_option maxHeartbeats 4000000 in
theorem jfX12_emit {I : km_S → Prop} (W : gw_ I [56, 59]) {Q : km_S → Prop} (hQ : ∀ y0, I y0 → Q y0) : ∀ (l1 : Int32) (μ : km_S), I μ → vX12_emit l1 μ Q := by
  intro l1 μ i
  unfold vX12_emit
  refine ⟨?_, ?_⟩
  · intro e1
    intro e2
    intro μ3 e3
    have iμ3 : I μ3 := by rw [e3]; exact ((W _ i) 56 (by decide)).2.1 _ _
    intro μ4 e4
    have iμ4 : I μ4 := by rw [e4]; exact ((W _ iμ3) 59 (by decide)).1 _
    exact hQ _ iμ4
  · intro e5
    exact hQ _ i

/-! the class: what is so of every end that is safe -/
def fw_ (I : kx_S → Prop) (W : List Nat) : Prop := ∀ u, I u → (∀ f, f ∈ W → (∀ a v, I (xsi u f a v)) ∧ (∀ a v, I (xsr u f a v)) ∧ ∀ a v, I (xsl u f a v)) ∧ (1001 ∈ W → ∀ a i v, I (xsai u a i v)) ∧ (1002 ∈ W → ∀ a i v, I (xsal u a i v)) ∧ (1003 ∈ W → (∀ a i v, I (xsar u a i v)) ∧ ∀ a f, I (xsAR u a f)) ∧ (1004 ∈ W → ∀ a f, I (xsAI u a f)) ∧ (1005 ∈ W → I (xbump u)) ∧ (∀ t, 1100 + t ∈ W → ∀ p, xt u p = 0 → I (xnew u p t)) ∧ (∀ t, 1200 + t ∈ W → ∀ p, xt u p = 0 → ∀ n, I (xnewA u p t n))
theorem fw_sub {I : kx_S → Prop} {W V : List Nat} (h : fw_ I W) (s : ∀ f ∈ V, f ∈ W) : fw_ I V := fun u i =>
  ⟨fun f hf => (h u i).1 f (s f hf), fun q => (h u i).2.1 (s _ q), fun q => (h u i).2.2.1 (s _ q), fun q => (h u i).2.2.2.1 (s _ q), fun q => (h u i).2.2.2.2.1 (s _ q), fun q => (h u i).2.2.2.2.2.1 (s _ q), fun t q => (h u i).2.2.2.2.2.2.1 t (s _ q), fun t q => (h u i).2.2.2.2.2.2.2 t (s _ q)⟩

def vJ3_checkIndex_8e157_9 (Q : Int32 → kx_S → Prop) (l0 : Int32) (l1 : Int32) (l2 : Option Nat) (σ : kx_S) : Prop := True
set_option maxRecDepth 100000 in
set_option maxHeartbeats 4000000 in
theorem jcJ3_checkIndex_8e157_9 {Q Q' Q'' : Int32 → kx_S → Prop} (hQ : ∀ y0 y1, Q y0 y1 → Q' y0 y1 → Q'' y0 y1) : ∀ (l0 : Int32) (l1 : Int32) (l2 : Option Nat) (σ : kx_S), wJ3_checkIndex_8e157_9 Q l0 l1 l2 σ → vJ3_checkIndex_8e157_9 Q' l0 l1 l2 σ → wJ3_checkIndex_8e157_9 Q'' l0 l1 l2 σ := by
  intro l0 l1 l2 σ h v
  unfold wJ3_checkIndex_8e157_9 at h
  unfold vJ3_checkIndex_8e157_9 at v
  unfold wJ3_checkIndex_8e157_9
  exact h.elim
set_option maxRecDepth 100000 in
set_option maxHeartbeats 4000000 in
theorem jaJ3_checkIndex_8e157_9 {Q Q' : Int32 → kx_S → Prop} (hQ : ∀ y0 y1, Q y0 y1 → Q' y0 y1) : ∀ (l0 : Int32) (l1 : Int32) (l2 : Option Nat) (σ : kx_S), wJ3_checkIndex_8e157_9 Q l0 l1 l2 σ → vJ3_checkIndex_8e157_9 Q' l0 l1 l2 σ := by
  intro l0 l1 l2 σ h
  unfold wJ3_checkIndex_8e157_9 at h
  unfold vJ3_checkIndex_8e157_9
  exact h.elim
set_option maxRecDepth 100000 in
set_option maxHeartbeats 4000000 in
theorem jfJ3_checkIndex_8e157_9 {I : kx_S → Prop} (W : fw_ I []) {Q : Int32 → kx_S → Prop} (hQ : ∀ y0 y1, I y1 → Q y0 y1) : ∀ (l0 : Int32) (l1 : Int32) (l2 : Option Nat) (σ : kx_S), I σ → vJ3_checkIndex_8e157_9 Q l0 l1 l2 σ := by
  intro l0 l1 l2 σ i
  unfold vJ3_checkIndex_8e157_9
  exact trivial
def vJ3_checkIndex_8e157 (l0 : Int32) (l1 : Int32) (l2 : Option Nat) (σ : kx_S) (Q : Int32 → kx_S → Prop) : Prop := ((l0 < 0 → vJ3_checkIndex_8e157_9 Q l0 l1 l2 σ) ∧ (¬ (l0 < 0) → ((l0 < l1 → Q l0 σ) ∧ (¬ (l0 < l1) → vJ3_checkIndex_8e157_9 Q l0 l1 l2 σ))))
set_option maxRecDepth 100000 in
set_option maxHeartbeats 4000000 in
theorem jcJ3_checkIndex_8e157 {Q Q' Q'' : Int32 → kx_S → Prop} (hQ : ∀ y0 y1, Q y0 y1 → Q' y0 y1 → Q'' y0 y1) : ∀ (l0 : Int32) (l1 : Int32) (l2 : Option Nat) (σ : kx_S), wJ3_checkIndex_8e157 l0 l1 l2 σ Q → vJ3_checkIndex_8e157 l0 l1 l2 σ Q' → wJ3_checkIndex_8e157 l0 l1 l2 σ Q'' := by
  intro l0 l1 l2 σ h v
  unfold wJ3_checkIndex_8e157 at h
  unfold vJ3_checkIndex_8e157 at v
  unfold wJ3_checkIndex_8e157
  refine ⟨?_, ?_⟩
  · have h := h.1
    have v := v.1
    intro e1
    have h := h e1
    have v := v e1
    exact jcJ3_checkIndex_8e157_9 hQ _ _ _ _ h v
  · have h := h.2
    have v := v.2
    intro e2
    have h := h e2
    have v := v e2
    refine ⟨?_, ?_⟩
    · have h := h.1
      have v := v.1
      intro e3
      have h := h e3
      have v := v e3
      exact hQ _ _ h v
    · have h := h.2
      have v := v.2
      intro e4
      have h := h e4
      have v := v e4
      exact jcJ3_checkIndex_8e157_9 hQ _ _ _ _ h v
set_option maxRecDepth 100000 in
set_option maxHeartbeats 4000000 in
theorem jaJ3_checkIndex_8e157 {Q Q' : Int32 → kx_S → Prop} (hQ : ∀ y0 y1, Q y0 y1 → Q' y0 y1) : ∀ (l0 : Int32) (l1 : Int32) (l2 : Option Nat) (σ : kx_S), wJ3_checkIndex_8e157 l0 l1 l2 σ Q → vJ3_checkIndex_8e157 l0 l1 l2 σ Q' := by
  intro l0 l1 l2 σ h
  unfold wJ3_checkIndex_8e157 at h
  unfold vJ3_checkIndex_8e157
  refine ⟨?_, ?_⟩
  · have h := h.1
    intro e1
    have h := h e1
    exact jaJ3_checkIndex_8e157_9 hQ _ _ _ _ h
  · have h := h.2
    intro e2
    have h := h e2
    refine ⟨?_, ?_⟩
    · have h := h.1
      intro e3
      have h := h e3
      exact hQ _ _ h
    · have h := h.2
      intro e4
      have h := h e4
      exact jaJ3_checkIndex_8e157_9 hQ _ _ _ _ h
set_option maxRecDepth 100000 in
set_option maxHeartbeats 4000000 in
theorem jfJ3_checkIndex_8e157 {I : kx_S → Prop} (W : fw_ I []) {Q : Int32 → kx_S → Prop} (hQ : ∀ y0 y1, I y1 → Q y0 y1) : ∀ (l0 : Int32) (l1 : Int32) (l2 : Option Nat) (σ : kx_S), I σ → vJ3_checkIndex_8e157 l0 l1 l2 σ Q := by
  intro l0 l1 l2 σ i
  unfold vJ3_checkIndex_8e157
  refine ⟨?_, ?_⟩
  · intro e1
    exact jfJ3_checkIndex_8e157_9 (I := I) (fw_sub W (by decide)) hQ _ _ _ _ i
  · intro e2
    refine ⟨?_, ?_⟩
    · intro e3
      exact hQ _ _ i
    · intro e4
      exact jfJ3_checkIndex_8e157_9 (I := I) (fw_sub W (by decide)) hQ _ _ _ _ i
def vJ15_checkIndex_7cf53 (l0 : Int32) (l1 : Int32) (σ : kx_S) (Q : Int32 → kx_S → Prop) : Prop := vJ3_checkIndex_8e157 l0 l1 none σ (fun r2 σ1 => Q r2 σ1)
set_option maxRecDepth 100000 in
set_option maxHeartbeats 4000000 in
theorem jcJ15_checkIndex_7cf53 {Q Q' Q'' : Int32 → kx_S → Prop} (hQ : ∀ y0 y1, Q y0 y1 → Q' y0 y1 → Q'' y0 y1) : ∀ (l0 : Int32) (l1 : Int32) (σ : kx_S), wJ15_checkIndex_7cf53 l0 l1 σ Q → vJ15_checkIndex_7cf53 l0 l1 σ Q' → wJ15_checkIndex_7cf53 l0 l1 σ Q'' := by
  intro l0 l1 σ h v
  unfold wJ15_checkIndex_7cf53 at h
  unfold vJ15_checkIndex_7cf53 at v
  unfold wJ15_checkIndex_7cf53
  refine jcJ3_checkIndex_8e157 ?_ _ _ _ _ h v
  intro r2 σ1 h v
  exact hQ _ _ h v
set_option maxRecDepth 100000 in
set_option maxHeartbeats 4000000 in
theorem jaJ15_checkIndex_7cf53 {Q Q' : Int32 → kx_S → Prop} (hQ : ∀ y0 y1, Q y0 y1 → Q' y0 y1) : ∀ (l0 : Int32) (l1 : Int32) (σ : kx_S), wJ15_checkIndex_7cf53 l0 l1 σ Q → vJ15_checkIndex_7cf53 l0 l1 σ Q' := by
  intro l0 l1 σ h
  unfold wJ15_checkIndex_7cf53 at h
  unfold vJ15_checkIndex_7cf53
  refine jaJ3_checkIndex_8e157 ?_ _ _ _ _ h
  intro r2 σ1 h
  exact hQ _ _ h
set_option maxRecDepth 100000 in
set_option maxHeartbeats 4000000 in
theorem jfJ15_checkIndex_7cf53 {I : kx_S → Prop} (W : fw_ I []) {Q : Int32 → kx_S → Prop} (hQ : ∀ y0 y1, I y1 → Q y0 y1) : ∀ (l0 : Int32) (l1 : Int32) (σ : kx_S), I σ → vJ15_checkIndex_7cf53 l0 l1 σ Q := by
  intro l0 l1 σ i
  unfold vJ15_checkIndex_7cf53
  refine jfJ3_checkIndex_8e157 (I := I) (fw_sub W (by decide)) ?_ _ _ _ _ i
  intro r2 σ1 iσ1
  exact hQ _ _ iσ1
def vJxa1e45_init_da8c8 (l0 : Nat) (σ : kx_S) (Q : kx_S → Prop) : Prop := Q σ
set_option maxRecDepth 100000 in
set_option maxHeartbeats 4000000 in
theorem jcJxa1e45_init_da8c8 {Q Q' Q'' : kx_S → Prop} (hQ : ∀ y0, Q y0 → Q' y0 → Q'' y0) : ∀ (l0 : Nat) (σ : kx_S), wJxa1e45_init_da8c8 l0 σ Q → vJxa1e45_init_da8c8 l0 σ Q' → wJxa1e45_init_da8c8 l0 σ Q'' := by
  intro l0 σ h v
  unfold wJxa1e45_init_da8c8 at h
  unfold vJxa1e45_init_da8c8 at v
  unfold wJxa1e45_init_da8c8
  exact hQ _ h v
set_option maxRecDepth 100000 in
set_option maxHeartbeats 4000000 in
theorem jaJxa1e45_init_da8c8 {Q Q' : kx_S → Prop} (hQ : ∀ y0, Q y0 → Q' y0) : ∀ (l0 : Nat) (σ : kx_S), wJxa1e45_init_da8c8 l0 σ Q → vJxa1e45_init_da8c8 l0 σ Q' := by
  intro l0 σ h
  unfold wJxa1e45_init_da8c8 at h
  unfold vJxa1e45_init_da8c8
  exact hQ _ h
set_option maxRecDepth 100000 in
set_option maxHeartbeats 4000000 in
theorem jfJxa1e45_init_da8c8 {I : kx_S → Prop} (W : fw_ I []) {Q : kx_S → Prop} (hQ : ∀ y0, I y0 → Q y0) : ∀ (l0 : Nat) (σ : kx_S), I σ → vJxa1e45_init_da8c8 l0 σ Q := by
  intro l0 σ i
  unfold vJxa1e45_init_da8c8
  exact hQ _ i
def vJxc12de_init_da8c8 (l0 : Nat) (σ : kx_S) (Q : kx_S → Prop) : Prop := vJxa1e45_init_da8c8 l0 σ (fun σ1 => xt σ1 l0 = 1 → ∀ σ3, σ3 = xsi σ1 16 l0 0 → Q σ3)
set_option maxRecDepth 100000 in
set_option maxHeartbeats 4000000 in
theorem jcJxc12de_init_da8c8 {Q Q' Q'' : kx_S → Prop} (hQ : ∀ y0, Q y0 → Q' y0 → Q'' y0) : ∀ (l0 : Nat) (σ : kx_S), wJxc12de_init_da8c8 l0 σ Q → vJxc12de_init_da8c8 l0 σ Q' → wJxc12de_init_da8c8 l0 σ Q'' := by
  intro l0 σ h v
  unfold wJxc12de_init_da8c8 at h
  unfold vJxc12de_init_da8c8 at v
  unfold wJxc12de_init_da8c8
  refine jcJxa1e45_init_da8c8 ?_ _ _ h v
  intro σ1 h v
  refine ⟨h.1, ?_⟩
  have v := v h.1
  have h := h.2
  intro σ3 e2
  have h := h σ3 e2
  have v := v σ3 e2
  exact hQ _ h v
set_option maxRecDepth 100000 in
set_option maxHeartbeats 4000000 in
theorem jaJxc12de_init_da8c8 {Q Q' : kx_S → Prop} (hQ : ∀ y0, Q y0 → Q' y0) : ∀ (l0 : Nat) (σ : kx_S), wJxc12de_init_da8c8 l0 σ Q → vJxc12de_init_da8c8 l0 σ Q' := by
  intro l0 σ h
  unfold wJxc12de_init_da8c8 at h
  unfold vJxc12de_init_da8c8
  refine jaJxa1e45_init_da8c8 ?_ _ _ h
  intro σ1 h
  intro e1
  have h := h.2
  intro σ3 e2
  have h := h σ3 e2
  exact hQ _ h
set_option maxRecDepth 100000 in
set_option maxHeartbeats 4000000 in
theorem jfJxc12de_init_da8c8 {I : kx_S → Prop} (W : fw_ I [16]) {Q : kx_S → Prop} (hQ : ∀ y0, I y0 → Q y0) : ∀ (l0 : Nat) (σ : kx_S), I σ → vJxc12de_init_da8c8 l0 σ Q := by
  intro l0 σ i
  unfold vJxc12de_init_da8c8
  refine jfJxa1e45_init_da8c8 (I := I) (fw_sub W (by decide)) ?_ _ _ i
  intro σ1 iσ1
  intro e1
  intro σ3 e2
  have iσ3 : I σ3 := by rw [e2]; exact ((W _ iσ1).1 16 (by decide)).1 _ _
  exact hQ _ iσ3
def vJx4a65c_init_da8c8 (l0 : Nat) (σ : kx_S) (Q : kx_S → Prop) : Prop := vJxc12de_init_da8c8 l0 σ (fun σ1 => xt σ1 l0 = 1 → ∀ σ3, σ3 = xsr σ1 17 l0 (some (xz σ1)) → Q σ3)
set_option maxRecDepth 100000 in
set_option maxHeartbeats 4000000 in
theorem jcJx4a65c_init_da8c8 {Q Q' Q'' : kx_S → Prop} (hQ : ∀ y0, Q y0 → Q' y0 → Q'' y0) : ∀ (l0 : Nat) (σ : kx_S), wJx4a65c_init_da8c8 l0 σ Q → vJx4a65c_init_da8c8 l0 σ Q' → wJx4a65c_init_da8c8 l0 σ Q'' := by
  intro l0 σ h v
  unfold wJx4a65c_init_da8c8 at h
  unfold vJx4a65c_init_da8c8 at v
  unfold wJx4a65c_init_da8c8
  refine jcJxc12de_init_da8c8 ?_ _ _ h v
  intro σ1 h v
  refine ⟨h.1, ?_⟩
  have v := v h.1
  have h := h.2
  intro σ3 e2
  have h := h σ3 e2
  have v := v σ3 e2
  exact hQ _ h v
set_option maxRecDepth 100000 in
set_option maxHeartbeats 4000000 in
theorem jaJx4a65c_init_da8c8 {Q Q' : kx_S → Prop} (hQ : ∀ y0, Q y0 → Q' y0) : ∀ (l0 : Nat) (σ : kx_S), wJx4a65c_init_da8c8 l0 σ Q → vJx4a65c_init_da8c8 l0 σ Q' := by
  intro l0 σ h
  unfold wJx4a65c_init_da8c8 at h
  unfold vJx4a65c_init_da8c8
  refine jaJxc12de_init_da8c8 ?_ _ _ h
  intro σ1 h
  intro e1
  have h := h.2
  intro σ3 e2
  have h := h σ3 e2
  exact hQ _ h
set_option maxRecDepth 100000 in
set_option maxHeartbeats 4000000 in
theorem jfJx4a65c_init_da8c8 {I : kx_S → Prop} (W : fw_ I [16, 17]) {Q : kx_S → Prop} (hQ : ∀ y0, I y0 → Q y0) : ∀ (l0 : Nat) (σ : kx_S), I σ → vJx4a65c_init_da8c8 l0 σ Q := by
  intro l0 σ i
  unfold vJx4a65c_init_da8c8
  refine jfJxc12de_init_da8c8 (I := I) (fw_sub W (by decide)) ?_ _ _ i
  intro σ1 iσ1
  intro e1
  intro σ3 e2
  have iσ3 : I σ3 := by rw [e2]; exact ((W _ iσ1).1 17 (by decide)).2.1 _ _
  exact hQ _ iσ3
def vJx4a65c_size_8abf5 (l0 : Nat) (σ : kx_S) (Q : Int32 → kx_S → Prop) : Prop := xt σ l0 = 1 → Q (xi σ 18 l0) σ
set_option maxRecDepth 100000 in
set_option maxHeartbeats 4000000 in
theorem jcJx4a65c_size_8abf5 {Q Q' Q'' : Int32 → kx_S → Prop} (hQ : ∀ y0 y1, Q y0 y1 → Q' y0 y1 → Q'' y0 y1) : ∀ (l0 : Nat) (σ : kx_S), wJx4a65c_size_8abf5 l0 σ Q → vJx4a65c_size_8abf5 l0 σ Q' → wJx4a65c_size_8abf5 l0 σ Q'' := by
  intro l0 σ h v
  unfold wJx4a65c_size_8abf5 at h
  unfold vJx4a65c_size_8abf5 at v
  unfold wJx4a65c_size_8abf5
  refine ⟨h.1, ?_⟩
  have v := v h.1
  have h := h.2
  exact hQ _ _ h v
set_option maxRecDepth 100000 in
set_option maxHeartbeats 4000000 in
theorem jaJx4a65c_size_8abf5 {Q Q' : Int32 → kx_S → Prop} (hQ : ∀ y0 y1, Q y0 y1 → Q' y0 y1) : ∀ (l0 : Nat) (σ : kx_S), wJx4a65c_size_8abf5 l0 σ Q → vJx4a65c_size_8abf5 l0 σ Q' := by
  intro l0 σ h
  unfold wJx4a65c_size_8abf5 at h
  unfold vJx4a65c_size_8abf5
  intro e1
  have h := h.2
  exact hQ _ _ h
set_option maxRecDepth 100000 in
set_option maxHeartbeats 4000000 in
theorem jfJx4a65c_size_8abf5 {I : kx_S → Prop} (W : fw_ I []) {Q : Int32 → kx_S → Prop} (hQ : ∀ y0 y1, I y1 → Q y0 y1) : ∀ (l0 : Nat) (σ : kx_S), I σ → vJx4a65c_size_8abf5 l0 σ Q := by
  intro l0 σ i
  unfold vJx4a65c_size_8abf5
  intro e1
  exact hQ _ _ i
def vJx4a65c_elementData_915e3 (l0 : Nat) (l1 : Int32) (σ : kx_S) (Q : Option Nat → kx_S → Prop) : Prop := xt σ l0 = 1 → ∀ a2, xr σ 17 l0 = some a2 → xt σ a2 = 22 → vp_in l1 (xn σ a2) → Q (xar σ a2 l1.toNatClampNeg) σ
set_option maxRecDepth 100000 in
set_option maxHeartbeats 4000000 in
theorem jcJx4a65c_elementData_915e3 {Q Q' Q'' : Option Nat → kx_S → Prop} (hQ : ∀ y0 y1, Q y0 y1 → Q' y0 y1 → Q'' y0 y1) : ∀ (l0 : Nat) (l1 : Int32) (σ : kx_S), wJx4a65c_elementData_915e3 l0 l1 σ Q → vJx4a65c_elementData_915e3 l0 l1 σ Q' → wJx4a65c_elementData_915e3 l0 l1 σ Q'' := by
  intro l0 l1 σ h v
  unfold wJx4a65c_elementData_915e3 at h
  unfold vJx4a65c_elementData_915e3 at v
  unfold wJx4a65c_elementData_915e3
  refine ⟨h.1, ?_⟩
  have v := v h.1
  have h := h.2
  obtain ⟨a2, e2, h⟩ := h
  refine ⟨a2, e2, ?_⟩
  have v := v a2 e2
  refine ⟨h.1, ?_⟩
  have v := v h.1
  have h := h.2
  refine ⟨h.1, ?_⟩
  have v := v h.1
  have h := h.2
  exact hQ _ _ h v
set_option maxRecDepth 100000 in
set_option maxHeartbeats 4000000 in
theorem jaJx4a65c_elementData_915e3 {Q Q' : Option Nat → kx_S → Prop} (hQ : ∀ y0 y1, Q y0 y1 → Q' y0 y1) : ∀ (l0 : Nat) (l1 : Int32) (σ : kx_S), wJx4a65c_elementData_915e3 l0 l1 σ Q → vJx4a65c_elementData_915e3 l0 l1 σ Q' := by
  intro l0 l1 σ h
  unfold wJx4a65c_elementData_915e3 at h
  unfold vJx4a65c_elementData_915e3
  intro e1
  have h := h.2
  obtain ⟨a2', e2, h⟩ := h
  intro a2 e3
  have x9 : a2' = a2 := Option.some.inj (e2.symm.trans e3)
  rw [x9] at h
  intro e4
  have h := h.2
  intro e5
  have h := h.2
  exact hQ _ _ h
set_option maxRecDepth 100000 in
set_option maxHeartbeats 4000000 in
theorem jfJx4a65c_elementData_915e3 {I : kx_S → Prop} (W : fw_ I []) {Q : Option Nat → kx_S → Prop} (hQ : ∀ y0 y1, I y1 → Q y0 y1) : ∀ (l0 : Nat) (l1 : Int32) (σ : kx_S), I σ → vJx4a65c_elementData_915e3 l0 l1 σ Q := by
  intro l0 l1 σ i
  unfold vJx4a65c_elementData_915e3
  intro e1
  intro a2 e2
  intro e3
  intro e4
  exact hQ _ _ i
def vJx4a65c_get_915e3 (l0 : Nat) (l1 : Int32) (σ : kx_S) (Q : Option Nat → kx_S → Prop) : Prop := xt σ l0 = 1 → vJ15_checkIndex_7cf53 l1 (xi σ 18 l0) σ (fun r3 σ2 => xt σ2 l0 = 1 → vJx4a65c_elementData_915e3 l0 l1 σ2 (fun q5 σ4 => Q q5 σ4))
set_option maxRecDepth 100000 in
set_option maxHeartbeats 4000000 in
theorem jcJx4a65c_get_915e3 {Q Q' Q'' : Option Nat → kx_S → Prop} (hQ : ∀ y0 y1, Q y0 y1 → Q' y0 y1 → Q'' y0 y1) : ∀ (l0 : Nat) (l1 : Int32) (σ : kx_S), wJx4a65c_get_915e3 l0 l1 σ Q → vJx4a65c_get_915e3 l0 l1 σ Q' → wJx4a65c_get_915e3 l0 l1 σ Q'' := by
  intro l0 l1 σ h v
  unfold wJx4a65c_get_915e3 at h
  unfold vJx4a65c_get_915e3 at v
  unfold wJx4a65c_get_915e3
  refine ⟨h.1, ?_⟩
  have v := v h.1
  have h := h.2
  refine jcJ15_checkIndex_7cf53 ?_ _ _ _ h v
  intro r3 σ2 h v
  refine ⟨h.1, ?_⟩
  have v := v h.1
  have h := h.2
  refine jcJx4a65c_elementData_915e3 ?_ _ _ _ h v
  intro q5 σ4 h v
  exact hQ _ _ h v
set_option maxRecDepth 100000 in
set_option maxHeartbeats 4000000 in
theorem jaJx4a65c_get_915e3 {Q Q' : Option Nat → kx_S → Prop} (hQ : ∀ y0 y1, Q y0 y1 → Q' y0 y1) : ∀ (l0 : Nat) (l1 : Int32) (σ : kx_S), wJx4a65c_get_915e3 l0 l1 σ Q → vJx4a65c_get_915e3 l0 l1 σ Q' := by
  intro l0 l1 σ h
  unfold wJx4a65c_get_915e3 at h
  unfold vJx4a65c_get_915e3
  intro e1
  have h := h.2
  refine jaJ15_checkIndex_7cf53 ?_ _ _ _ h
  intro r3 σ2 h
  intro e2
  have h := h.2
  refine jaJx4a65c_elementData_915e3 ?_ _ _ _ h
  intro q5 σ4 h
  exact hQ _ _ h
set_option maxRecDepth 100000 in
set_option maxHeartbeats 4000000 in
theorem jfJx4a65c_get_915e3 {I : kx_S → Prop} (W : fw_ I []) {Q : Option Nat → kx_S → Prop} (hQ : ∀ y0 y1, I y1 → Q y0 y1) : ∀ (l0 : Nat) (l1 : Int32) (σ : kx_S), I σ → vJx4a65c_get_915e3 l0 l1 σ Q := by
  intro l0 l1 σ i
  unfold vJx4a65c_get_915e3
  intro e1
  refine jfJ15_checkIndex_7cf53 (I := I) (fw_sub W (by decide)) ?_ _ _ _ i
  intro r3 σ2 iσ2
  intro e2
  refine jfJx4a65c_elementData_915e3 (I := I) (fw_sub W (by decide)) ?_ _ _ _ iσ2
  intro q5 σ4 iσ4
  exact hQ _ _ iσ4
def vJ8_newLength_cabcc_21 (Q : Int32 → kx_S → Prop) (l0 : Int32) (l1 : Int32) (σ : kx_S) : Prop := True
set_option maxRecDepth 100000 in
set_option maxHeartbeats 4000000 in
theorem jcJ8_newLength_cabcc_21 {Q Q' Q'' : Int32 → kx_S → Prop} (hQ : ∀ y0 y1, Q y0 y1 → Q' y0 y1 → Q'' y0 y1) : ∀ (l0 : Int32) (l1 : Int32) (σ : kx_S), wJ8_newLength_cabcc_21 Q l0 l1 σ → vJ8_newLength_cabcc_21 Q' l0 l1 σ → wJ8_newLength_cabcc_21 Q'' l0 l1 σ := by
  intro l0 l1 σ h v
  unfold wJ8_newLength_cabcc_21 at h
  unfold vJ8_newLength_cabcc_21 at v
  unfold wJ8_newLength_cabcc_21
  exact h.elim
set_option maxRecDepth 100000 in
set_option maxHeartbeats 4000000 in
theorem jaJ8_newLength_cabcc_21 {Q Q' : Int32 → kx_S → Prop} (hQ : ∀ y0 y1, Q y0 y1 → Q' y0 y1) : ∀ (l0 : Int32) (l1 : Int32) (σ : kx_S), wJ8_newLength_cabcc_21 Q l0 l1 σ → vJ8_newLength_cabcc_21 Q' l0 l1 σ := by
  intro l0 l1 σ h
  unfold wJ8_newLength_cabcc_21 at h
  unfold vJ8_newLength_cabcc_21
  exact h.elim
set_option maxRecDepth 100000 in
set_option maxHeartbeats 4000000 in
theorem jfJ8_newLength_cabcc_21 {I : kx_S → Prop} (W : fw_ I []) {Q : Int32 → kx_S → Prop} (hQ : ∀ y0 y1, I y1 → Q y0 y1) : ∀ (l0 : Int32) (l1 : Int32) (σ : kx_S), I σ → vJ8_newLength_cabcc_21 Q l0 l1 σ := by
  intro l0 l1 σ i
  unfold vJ8_newLength_cabcc_21
  exact trivial
def vJ8_newLength_cabcc (l0 : Int32) (l1 : Int32) (l2 : Int32) (σ : kx_S) (Q : Int32 → kx_S → Prop) : Prop := ∀ v1, v1 = (if l1 < l2 then l2 else l1) → ∀ v2, v2 = l0 + v1 → ((v2 ≤ 0 → vJ8_newLength_cabcc_21 Q l0 l1 σ) ∧ (¬ (v2 ≤ 0) → ((2147483639 < v2 → vJ8_newLength_cabcc_21 Q l0 l1 σ) ∧ (¬ (2147483639 < v2) → Q v2 σ))))
set_option maxRecDepth 100000 in
set_option maxHeartbeats 4000000 in
theorem jcJ8_newLength_cabcc {Q Q' Q'' : Int32 → kx_S → Prop} (hQ : ∀ y0 y1, Q y0 y1 → Q' y0 y1 → Q'' y0 y1) : ∀ (l0 : Int32) (l1 : Int32) (l2 : Int32) (σ : kx_S), wJ8_newLength_cabcc l0 l1 l2 σ Q → vJ8_newLength_cabcc l0 l1 l2 σ Q' → wJ8_newLength_cabcc l0 l1 l2 σ Q'' := by
  intro l0 l1 l2 σ h v
  unfold wJ8_newLength_cabcc at h
  unfold vJ8_newLength_cabcc at v
  unfold wJ8_newLength_cabcc
  intro v1 e1
  have h := h v1 e1
  have v := v v1 e1
  intro v2 e2
  have h := h v2 e2
  have v := v v2 e2
  refine ⟨?_, ?_⟩
  · have h := h.1
    have v := v.1
    intro e3
    have h := h e3
    have v := v e3
    exact jcJ8_newLength_cabcc_21 hQ _ _ _ h v
  · have h := h.2
    have v := v.2
    intro e4
    have h := h e4
    have v := v e4
    refine ⟨?_, ?_⟩
    · have h := h.1
      have v := v.1
      intro e5
      have h := h e5
      have v := v e5
      exact jcJ8_newLength_cabcc_21 hQ _ _ _ h v
    · have h := h.2
      have v := v.2
      intro e6
      have h := h e6
      have v := v e6
      exact hQ _ _ h v
set_option maxRecDepth 100000 in
set_option maxHeartbeats 4000000 in
theorem jaJ8_newLength_cabcc {Q Q' : Int32 → kx_S → Prop} (hQ : ∀ y0 y1, Q y0 y1 → Q' y0 y1) : ∀ (l0 : Int32) (l1 : Int32) (l2 : Int32) (σ : kx_S), wJ8_newLength_cabcc l0 l1 l2 σ Q → vJ8_newLength_cabcc l0 l1 l2 σ Q' := by
  intro l0 l1 l2 σ h
  unfold wJ8_newLength_cabcc at h
  unfold vJ8_newLength_cabcc
  intro v1 e1
  have h := h v1 e1
  intro v2 e2
  have h := h v2 e2
  refine ⟨?_, ?_⟩
  · have h := h.1
    intro e3
    have h := h e3
    exact jaJ8_newLength_cabcc_21 hQ _ _ _ h
  · have h := h.2
    intro e4
    have h := h e4
    refine ⟨?_, ?_⟩
    · have h := h.1
      intro e5
      have h := h e5
      exact jaJ8_newLength_cabcc_21 hQ _ _ _ h
    · have h := h.2
      intro e6
      have h := h e6
      exact hQ _ _ h
set_option maxRecDepth 100000 in
set_option maxHeartbeats 4000000 in
theorem jfJ8_newLength_cabcc {I : kx_S → Prop} (W : fw_ I []) {Q : Int32 → kx_S → Prop} (hQ : ∀ y0 y1, I y1 → Q y0 y1) : ∀ (l0 : Int32) (l1 : Int32) (l2 : Int32) (σ : kx_S), I σ → vJ8_newLength_cabcc l0 l1 l2 σ Q := by
  intro l0 l1 l2 σ i
  unfold vJ8_newLength_cabcc
  intro v1 e1
  intro v2 e2
  refine ⟨?_, ?_⟩
  · intro e3
    exact jfJ8_newLength_cabcc_21 (I := I) (fw_sub W (by decide)) hQ _ _ _ i
  · intro e4
    refine ⟨?_, ?_⟩
    · intro e5
      exact jfJ8_newLength_cabcc_21 (I := I) (fw_sub W (by decide)) hQ _ _ _ i
    · intro e6
      exact hQ _ _ i
def vJ7_copyOf_6403c_24 (Q : Nat → kx_S → Prop) (l0 : Nat) (l1 : Int32) (s0 : Nat) (σ : kx_S) : Prop := xt σ l0 = 22 → ∀ v2, v2 = (if l1 < (nI (xn σ l0)) then l1 else (nI (xn σ l0))) → xt σ s0 = 22 → ¬ (0 : Int32) < 0 → ¬ (0 : Int32) < 0 → ¬ v2 < 0 → (Int32.toNatClampNeg 0) + v2.toNatClampNeg ≤ xn σ l0 → (Int32.toNatClampNeg 0) + v2.toNatClampNeg ≤ xn σ s0 → (∀ i : Nat, i < v2.toNatClampNeg → ∀ y : Nat, xar σ l0 ((Int32.toNatClampNeg 0) + i) = some y → kx_el (xt σ y)) → ∀ σ10, σ10 = xsAR σ s0 (va_cpy (xar σ l0) (xar σ s0) (Int32.toNatClampNeg 0) (Int32.toNatClampNeg 0) v2.toNatClampNeg) → Q s0 σ10
set_option maxRecDepth 100000 in
set_option maxHeartbeats 4000000 in
theorem jcJ7_copyOf_6403c_24 {Q Q' Q'' : Nat → kx_S → Prop} (hQ : ∀ y0 y1, Q y0 y1 → Q' y0 y1 → Q'' y0 y1) : ∀ (l0 : Nat) (l1 : Int32) (s0 : Nat) (σ : kx_S), wJ7_copyOf_6403c_24 Q l0 l1 s0 σ → vJ7_copyOf_6403c_24 Q' l0 l1 s0 σ → wJ7_copyOf_6403c_24 Q'' l0 l1 s0 σ := by
  intro l0 l1 s0 σ h v
  unfold wJ7_copyOf_6403c_24 at h
  unfold vJ7_copyOf_6403c_24 at v
  unfold wJ7_copyOf_6403c_24
  refine ⟨h.1, ?_⟩
  have v := v h.1
  have h := h.2
  intro v2 e2
  have h := h v2 e2
  have v := v v2 e2
  refine ⟨h.1, ?_⟩
  have v := v h.1
  have h := h.2
  refine ⟨h.1, ?_⟩
  have v := v h.1
  have h := h.2
  refine ⟨h.1, ?_⟩
  have v := v h.1
  have h := h.2
  refine ⟨h.1, ?_⟩
  have v := v h.1
  have h := h.2
  refine ⟨h.1, ?_⟩
  have v := v h.1
  have h := h.2
  refine ⟨h.1, ?_⟩
  have v := v h.1
  have h := h.2
  refine ⟨h.1, ?_⟩
  have v := v h.1
  have h := h.2
  intro σ10 e10
  have h := h σ10 e10
  have v := v σ10 e10
  exact hQ _ _ h v
set_option maxRecDepth 100000 in
set_option maxHeartbeats 4000000 in
theorem jaJ7_copyOf_6403c_24 {Q Q' : Nat → kx_S → Prop} (hQ : ∀ y0 y1, Q y0 y1 → Q' y0 y1) : ∀ (l0 : Nat) (l1 : Int32) (s0 : Nat) (σ : kx_S), wJ7_copyOf_6403c_24 Q l0 l1 s0 σ → vJ7_copyOf_6403c_24 Q' l0 l1 s0 σ := by
  intro l0 l1 s0 σ h
  unfold wJ7_copyOf_6403c_24 at h
  unfold vJ7_copyOf_6403c_24
  intro e1
  have h := h.2
  intro v2 e2
  have h := h v2 e2
  intro e3
  have h := h.2
  intro e4
  have h := h.2
  intro e5
  have h := h.2
  intro e6
  have h := h.2
  intro e7
  have h := h.2
  intro e8
  have h := h.2
  intro e9
  have h := h.2
  intro σ10 e10
  have h := h σ10 e10
  exact hQ _ _ h
set_option maxRecDepth 100000 in
set_option maxHeartbeats 4000000 in
theorem jfJ7_copyOf_6403c_24 {I : kx_S → Prop} (W : fw_ I [1003]) {Q : Nat → kx_S → Prop} (hQ : ∀ y0 y1, I y1 → Q y0 y1) : ∀ (l0 : Nat) (l1 : Int32) (s0 : Nat) (σ : kx_S), I σ → vJ7_copyOf_6403c_24 Q l0 l1 s0 σ := by
  intro l0 l1 s0 σ i
  unfold vJ7_copyOf_6403c_24
  intro e1
  intro v2 e2
  intro e3
  intro e4
  intro e5
  intro e6
  intro e7
  intro e8
  intro e9
  intro σ10 e10
  have iσ10 : I σ10 := by rw [e10]; exact ((W _ i).2.2.2.1 (by decide)).2 _ _
  exact hQ _ _ iσ10

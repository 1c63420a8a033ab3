def vX0_init (l0 : Nat) (σ : kx_S) (Q : kx_S → Prop) : Prop := xc σ < kx_N → ∀ p2, xt σ p2 = 0 → p2 ≠ xz σ → ∀ σ5, σ5 = xnew σ p2 1 → vJx4a65c_init_da8c8 p2 σ5 (fun σ7 => xt σ7 l0 = 2 → ∀ σ9, σ9 = xsr σ7 32 l0 (some p2) → xc σ9 < kx_N → ∀ p12, xt σ9 p12 = 0 → p12 ≠ xz σ9 → ∀ σ15, σ15 = xnew σ9 p12 1 → vJx4a65c_init_da8c8 p12 σ15 (fun σ17 => xt σ17 l0 = 2 → ∀ σ19, σ19 = xsr σ17 33 l0 (some p12) → Q σ19))
set_option maxRecDepth 100000 in
set_option maxHeartbeats 4000000 in
theorem jcX0_init {Q Q' Q'' : kx_S → Prop} (hQ : ∀ y0, Q y0 → Q' y0 → Q'' y0) : ∀ (l0 : Nat) (σ : kx_S), wX0_init l0 σ Q → vX0_init l0 σ Q' → wX0_init l0 σ Q'' := by
  intro l0 σ h v
  unfold wX0_init at h
  unfold vX0_init at v
  unfold wX0_init
  refine ⟨h.1, ?_⟩
  have v := v h.1
  have h := h.2
  intro p2 e2 e3
  have h := h p2 e2 e3
  have v := v p2 e2 e3
  intro σ5 e4
  have h := h σ5 e4
  have v := v σ5 e4
  refine jcJx4a65c_init_da8c8 ?_ _ _ h v
  intro σ7 h v
  refine ⟨h.1, ?_⟩
  have v := v h.1
  have h := h.2
  intro σ9 e6
  have h := h σ9 e6
  have v := v σ9 e6
  refine ⟨h.1, ?_⟩
  have v := v h.1
  have h := h.2
  intro p12 e8 e9
  have h := h p12 e8 e9
  have v := v p12 e8 e9
  intro σ15 e10
  have h := h σ15 e10
  have v := v σ15 e10
  refine jcJx4a65c_init_da8c8 ?_ _ _ h v
  intro σ17 h v
  refine ⟨h.1, ?_⟩
  have v := v h.1
  have h := h.2
  intro σ19 e12
  have h := h σ19 e12
  have v := v σ19 e12
  exact hQ _ h v
set_option maxRecDepth 100000 in
set_option maxHeartbeats 4000000 in
theorem jaX0_init {Q Q' : kx_S → Prop} (hQ : ∀ y0, Q y0 → Q' y0) : ∀ (l0 : Nat) (σ : kx_S), wX0_init l0 σ Q → vX0_init l0 σ Q' := by
  intro l0 σ h
  unfold wX0_init at h
  unfold vX0_init
  intro e1
  have h := h.2
  intro p2 e2 e3
  have h := h p2 e2 e3
  intro σ5 e4
  have h := h σ5 e4
  refine jaJx4a65c_init_da8c8 ?_ _ _ h
  intro σ7 h
  intro e5
  have h := h.2
  intro σ9 e6
  have h := h σ9 e6
  intro e7
  have h := h.2
  intro p12 e8 e9
  have h := h p12 e8 e9
  intro σ15 e10
  have h := h σ15 e10
  refine jaJx4a65c_init_da8c8 ?_ _ _ h
  intro σ17 h
  intro e11
  have h := h.2
  intro σ19 e12
  have h := h σ19 e12
  exact hQ _ h
set_option maxRecDepth 100000 in
set_option maxHeartbeats 4000000 in
theorem jfX0_init {I : kx_S → Prop} (W : fw_ I [16, 17, 32, 33, 1101]) {Q : kx_S → Prop} (hQ : ∀ y0, I y0 → Q y0) : ∀ (l0 : Nat) (σ : kx_S), I σ → vX0_init l0 σ Q := by
  intro l0 σ i
  unfold vX0_init
  intro e1
  intro p2 e2 e3
  intro σ5 e4
  have iσ5 : I σ5 := by rw [e4]; exact (W _ i).2.2.2.2.2.2.1 1 (by decide) _ e2
  refine jfJx4a65c_init_da8c8 (I := I) (fw_sub W (by decide)) ?_ _ _ iσ5
  intro σ7 iσ7
  intro e5
  intro σ9 e6
  have iσ9 : I σ9 := by rw [e6]; exact ((W _ iσ7).1 32 (by decide)).2.1 _ _
  intro e7
  intro p12 e8 e9
  intro σ15 e10
  have iσ15 : I σ15 := by rw [e10]; exact (W _ iσ9).2.2.2.2.2.2.1 1 (by decide) _ e8
  refine jfJx4a65c_init_da8c8 (I := I) (fw_sub W (by decide)) ?_ _ _ iσ15
  intro σ17 iσ17
  intro e11
  intro σ19 e12
  have iσ19 : I σ19 := by rw [e12]; exact ((W _ iσ17).1 33 (by decide)).2.1 _ _
  exact hQ _ iσ19
def vX0_catches (l0 : Nat) (l1 : Int32) (σ : kx_S) (Q : Int32 → kx_S → Prop) : Prop := xt σ l0 = 2 → ((¬ (((xi σ 34 l0) >>> (l1 &&& 31)) &&& 1) = 1 → Q 0 σ) ∧ ((((xi σ 34 l0) >>> (l1 &&& 31)) &&& 1) = 1 → Q 1 σ))
set_option maxRecDepth 100000 in
set_option maxHeartbeats 4000000 in
theorem jcX0_catches {Q Q' Q'' : Int32 → kx_S → Prop} (hQ : ∀ y0 y1, Q y0 y1 → Q' y0 y1 → Q'' y0 y1) : ∀ (l0 : Nat) (l1 : Int32) (σ : kx_S), wX0_catches l0 l1 σ Q → vX0_catches l0 l1 σ Q' → wX0_catches l0 l1 σ Q'' := by
  intro l0 l1 σ h v
  unfold wX0_catches at h
  unfold vX0_catches at v
  unfold wX0_catches
  refine ⟨h.1, ?_⟩
  have v := v h.1
  have h := h.2
  refine ⟨?_, ?_⟩
  · have h := h.1
    have v := v.1
    intro e2
    have h := h e2
    have v := v e2
    exact hQ _ _ h v
  · have h := h.2
    have v := v.2
    intro e3
    have h := h e3
    have v := v e3
    exact hQ _ _ h v
set_option maxRecDepth 100000 in
set_option maxHeartbeats 4000000 in
theorem jaX0_catches {Q Q' : Int32 → kx_S → Prop} (hQ : ∀ y0 y1, Q y0 y1 → Q' y0 y1) : ∀ (l0 : Nat) (l1 : Int32) (σ : kx_S), wX0_catches l0 l1 σ Q → vX0_catches l0 l1 σ Q' := by
  intro l0 l1 σ h
  unfold wX0_catches at h
  unfold vX0_catches
  intro e1
  have h := h.2
  refine ⟨?_, ?_⟩
  · have h := h.1
    intro e2
    have h := h e2
    exact hQ _ _ h
  · have h := h.2
    intro e3
    have h := h e3
    exact hQ _ _ h
set_option maxRecDepth 100000 in
set_option maxHeartbeats 4000000 in
theorem jfX0_catches {I : kx_S → Prop} (W : fw_ I []) {Q : Int32 → kx_S → Prop} (hQ : ∀ y0 y1, I y1 → Q y0 y1) : ∀ (l0 : Nat) (l1 : Int32) (σ : kx_S), I σ → vX0_catches l0 l1 σ Q := by
  intro l0 l1 σ i
  unfold vX0_catches
  intro e1
  refine ⟨?_, ?_⟩
  · intro e2
    exact hQ _ _ i
  · intro e3
    exact hQ _ _ i
def vX0_takeFirstFor_64 (k2 : Nat → Nat → Int32 → kx_S → Prop) (Q : Option Nat → kx_S → Prop) (l0 : Nat) (l1 : Nat) (l2 : Int32) (σ : kx_S) : Prop := ∀ v1 : Int32, v1 = l2 + 1 → k2 l0 l1 v1 σ
set_option maxRecDepth 100000 in
set_option maxHeartbeats 4000000 in
theorem jcX0_takeFirstFor_64 {k2 k2' k2'' : Nat → Nat → Int32 → kx_S → Prop} (hk2 : ∀ y0 y1 y2 y3, k2 y0 y1 y2 y3 → k2' y0 y1 y2 y3 → k2'' y0 y1 y2 y3) {Q Q' Q'' : Option Nat → kx_S → Prop} (hQ : ∀ y0 y1, Q y0 y1 → Q' y0 y1 → Q'' y0 y1) : ∀ (l0 : Nat) (l1 : Nat) (l2 : Int32) (σ : kx_S), wX0_takeFirstFor_64 k2 Q l0 l1 l2 σ → vX0_takeFirstFor_64 k2' Q' l0 l1 l2 σ → wX0_takeFirstFor_64 k2'' Q'' l0 l1 l2 σ := by
  intro l0 l1 l2 σ h v
  unfold wX0_takeFirstFor_64 at h
  unfold vX0_takeFirstFor_64 at v
  unfold wX0_takeFirstFor_64
  intro v1 e1
  have h := h v1 e1
  have v := v v1 e1
  exact hk2 _ _ _ _ h v
set_option maxRecDepth 100000 in
set_option maxHeartbeats 4000000 in
theorem jaX0_takeFirstFor_64 {k2 k2' : Nat → Nat → Int32 → kx_S → Prop} (hk2 : ∀ y0 y1 y2 y3, k2 y0 y1 y2 y3 → k2' y0 y1 y2 y3) {Q Q' : Option Nat → kx_S → Prop} (hQ : ∀ y0 y1, Q y0 y1 → Q' y0 y1) : ∀ (l0 : Nat) (l1 : Nat) (l2 : Int32) (σ : kx_S), wX0_takeFirstFor_64 k2 Q l0 l1 l2 σ → vX0_takeFirstFor_64 k2' Q' l0 l1 l2 σ := by
  intro l0 l1 l2 σ h
  unfold wX0_takeFirstFor_64 at h
  unfold vX0_takeFirstFor_64
  intro v1 e1
  have h := h v1 e1
  exact hk2 _ _ _ _ h
set_option maxRecDepth 100000 in
set_option maxHeartbeats 4000000 in
theorem jfX0_takeFirstFor_64 {I : kx_S → Prop} (W : fw_ I []) {k2 : Nat → Nat → Int32 → kx_S → Prop} (hk2 : ∀ y0 y1 y2 y3, I y3 → k2 y0 y1 y2 y3) {Q : Option Nat → kx_S → Prop} (hQ : ∀ y0 y1, I y1 → Q y0 y1) : ∀ (l0 : Nat) (l1 : Nat) (l2 : Int32) (σ : kx_S), I σ → vX0_takeFirstFor_64 k2 Q l0 l1 l2 σ := by
  intro l0 l1 l2 σ i
  unfold vX0_takeFirstFor_64
  intro v1 e1
  exact hk2 _ _ _ _ i
def vX0_takeFirstFor_51 (Q : Option Nat → kx_S → Prop) (l0 : Nat) (l2 : Int32) (l3 : Nat) (σ : kx_S) : Prop := xt σ l0 = 2 → ∀ a3, xr σ 32 l0 = some a3 → xt σ a3 = 1 → vJx4a65c_remove_915e3 a3 l2 σ (fun q6 σ5 => Q (some l3) σ5)
set_option maxRecDepth 100000 in
set_option maxHeartbeats 4000000 in
theorem jcX0_takeFirstFor_51 {Q Q' Q'' : Option Nat → kx_S → Prop} (hQ : ∀ y0 y1, Q y0 y1 → Q' y0 y1 → Q'' y0 y1) : ∀ (l0 : Nat) (l2 : Int32) (l3 : Nat) (σ : kx_S), wX0_takeFirstFor_51 Q l0 l2 l3 σ → vX0_takeFirstFor_51 Q' l0 l2 l3 σ → wX0_takeFirstFor_51 Q'' l0 l2 l3 σ := by
  intro l0 l2 l3 σ h v
  unfold wX0_takeFirstFor_51 at h
  unfold vX0_takeFirstFor_51 at v
  unfold wX0_takeFirstFor_51
  refine ⟨h.1, ?_⟩
  have v := v h.1
  have h := h.2
  obtain ⟨a3, e2, h⟩ := h
  refine ⟨a3, e2, ?_⟩
  have v := v a3 e2
  refine ⟨h.1, ?_⟩
  have v := v h.1
  have h := h.2
  refine jcJx4a65c_remove_915e3 ?_ _ _ _ h v
  intro q6 σ5 h v
  exact hQ _ _ h v
set_option maxRecDepth 100000 in
set_option maxHeartbeats 4000000 in
theorem jaX0_takeFirstFor_51 {Q Q' : Option Nat → kx_S → Prop} (hQ : ∀ y0 y1, Q y0 y1 → Q' y0 y1) : ∀ (l0 : Nat) (l2 : Int32) (l3 : Nat) (σ : kx_S), wX0_takeFirstFor_51 Q l0 l2 l3 σ → vX0_takeFirstFor_51 Q' l0 l2 l3 σ := by
  intro l0 l2 l3 σ h
  unfold wX0_takeFirstFor_51 at h
  unfold vX0_takeFirstFor_51
  intro e1
  have h := h.2
  obtain ⟨a3', e2, h⟩ := h
  intro a3 e3
  have x9 : a3' = a3 := Option.some.inj (e2.symm.trans e3)
  rw [x9] at h
  intro e4
  have h := h.2
  refine jaJx4a65c_remove_915e3 ?_ _ _ _ h
  intro q6 σ5 h
  exact hQ _ _ h
set_option maxRecDepth 100000 in
set_option maxHeartbeats 4000000 in
theorem jfX0_takeFirstFor_51 {I : kx_S → Prop} (W : fw_ I [16, 18, 1003]) {Q : Option Nat → kx_S → Prop} (hQ : ∀ y0 y1, I y1 → Q y0 y1) : ∀ (l0 : Nat) (l2 : Int32) (l3 : Nat) (σ : kx_S), I σ → vX0_takeFirstFor_51 Q l0 l2 l3 σ := by
  intro l0 l2 l3 σ i
  unfold vX0_takeFirstFor_51
  intro e1
  intro a3 e2
  intro e3
  refine jfJx4a65c_remove_915e3 (I := I) (fw_sub W (by decide)) ?_ _ _ _ i
  intro q6 σ5 iσ5
  exact hQ _ _ iσ5
def vX0_takeFirstFor_2 (k51 : Nat → Int32 → Nat → kx_S → Prop) (Q : Option Nat → kx_S → Prop) : Nat → Nat → Nat → Int32 → kx_S → Prop
  | 0, _, _, _, _ => True
  | n + 1, l0, l1, l2, σ => xt σ l0 = 2 → ∀ a9, xr σ 32 l0 = some a9 → xt σ a9 = 1 → vJx4a65c_size_8abf5 a9 σ (fun r12 σ11 => ((r12 ≤ l2 → Q none σ11) ∧ (¬ (r12 ≤ l2) → xt σ11 l0 = 2 → ∀ a16, xr σ11 32 l0 = some a16 → xt σ11 a16 = 1 → vJx4a65c_get_915e3 a16 l2 σ11 (fun q19 σ18 => ∀ a21, q19 = some a21 → xt σ18 a21 = 8 → xt σ18 l1 = 9 → ((¬ (xi σ18 129 a21) = (xi σ18 144 l1) → vX0_takeFirstFor_64 (vX0_takeFirstFor_2 k51 Q n) Q l0 l1 l2 σ18) ∧ ((xi σ18 129 a21) = (xi σ18 144 l1) → (((xi σ18 130 a21) < (xi σ18 145 l1) → vX0_takeFirstFor_64 (vX0_takeFirstFor_2 k51 Q n) Q l0 l1 l2 σ18) ∧ (¬ ((xi σ18 130 a21) < (xi σ18 145 l1)) → k51 l0 l2 a21 σ18))))))))
set_option maxRecDepth 100000 in
set_option maxHeartbeats 4000000 in
theorem jcX0_takeFirstFor_2 {k51 k51' k51'' : Nat → Int32 → Nat → kx_S → Prop} (hk51 : ∀ y0 y1 y2 y3, k51 y0 y1 y2 y3 → k51' y0 y1 y2 y3 → k51'' y0 y1 y2 y3) {Q Q' Q'' : Option Nat → kx_S → Prop} (hQ : ∀ y0 y1, Q y0 y1 → Q' y0 y1 → Q'' y0 y1) : ∀ (n : Nat) (l0 : Nat) (l1 : Nat) (l2 : Int32) (σ : kx_S), wX0_takeFirstFor_2 k51 Q n l0 l1 l2 σ → vX0_takeFirstFor_2 k51' Q' n l0 l1 l2 σ → wX0_takeFirstFor_2 k51'' Q'' n l0 l1 l2 σ := by
  intro n
  induction n with
  | zero => intro l0 l1 l2 σ h; exact h.elim
  | succ n ih =>
    intro l0 l1 l2 σ h v
    unfold wX0_takeFirstFor_2 at h
    unfold vX0_takeFirstFor_2 at v
    unfold wX0_takeFirstFor_2
    refine ⟨h.1, ?_⟩
    have v := v h.1
    have h := h.2
    obtain ⟨a9, e2, h⟩ := h
    refine ⟨a9, e2, ?_⟩
    have v := v a9 e2
    refine ⟨h.1, ?_⟩
    have v := v h.1
    have h := h.2
    refine jcJx4a65c_size_8abf5 ?_ _ _ h v
    intro r12 σ11 h v
    refine ⟨?_, ?_⟩
    · have h := h.1
      have v := v.1
      intro e4
      have h := h e4
      have v := v e4
      exact hQ _ _ h v
    · have h := h.2
      have v := v.2
      intro e5
      have h := h e5
      have v := v e5
      refine ⟨h.1, ?_⟩
      have v := v h.1
      have h := h.2
      obtain ⟨a16, e7, h⟩ := h
      refine ⟨a16, e7, ?_⟩
      have v := v a16 e7
      refine ⟨h.1, ?_⟩
      have v := v h.1
      have h := h.2
      refine jcJx4a65c_get_915e3 ?_ _ _ _ h v
      intro q19 σ18 h v
      obtain ⟨a21, e9, h⟩ := h
      refine ⟨a21, e9, ?_⟩
      have v := v a21 e9
      refine ⟨h.1, ?_⟩
      have v := v h.1
      have h := h.2
      refine ⟨h.1, ?_⟩
      have v := v h.1
      have h := h.2
      refine ⟨?_, ?_⟩
      · have h := h.1
        have v := v.1
        intro e12
        have h := h e12
        have v := v e12
        exact jcX0_takeFirstFor_64 (k2 := wX0_takeFirstFor_2 k51 Q n) (k2' := vX0_takeFirstFor_2 k51' Q' n) (k2'' := wX0_takeFirstFor_2 k51'' Q'' n) (fun _ _ _ _ h v => ih _ _ _ _ h v) hQ _ _ _ _ h v
      · have h := h.2
        have v := v.2
        intro e13
        have h := h e13
        have v := v e13
        refine ⟨?_, ?_⟩
        · have h := h.1
          have v := v.1
          intro e14
          have h := h e14
          have v := v e14
          exact jcX0_takeFirstFor_64 (k2 := wX0_takeFirstFor_2 k51 Q n) (k2' := vX0_takeFirstFor_2 k51' Q' n) (k2'' := wX0_takeFirstFor_2 k51'' Q'' n) (fun _ _ _ _ h v => ih _ _ _ _ h v) hQ _ _ _ _ h v
        · have h := h.2
          have v := v.2
          intro e15
          have h := h e15
          have v := v e15
          exact hk51 _ _ _ _ h v
set_option maxRecDepth 100000 in
set_option maxHeartbeats 4000000 in
theorem jaX0_takeFirstFor_2 {k51 k51' : Nat → Int32 → Nat → kx_S → Prop} (hk51 : ∀ y0 y1 y2 y3, k51 y0 y1 y2 y3 → k51' y0 y1 y2 y3) {Q Q' : Option Nat → kx_S → Prop} (hQ : ∀ y0 y1, Q y0 y1 → Q' y0 y1) : ∀ (n m : Nat) (l0 : Nat) (l1 : Nat) (l2 : Int32) (σ : kx_S), wX0_takeFirstFor_2 k51 Q n l0 l1 l2 σ → vX0_takeFirstFor_2 k51' Q' m l0 l1 l2 σ := by
  intro n
  induction n with
  | zero => intro m l0 l1 l2 σ h; exact h.elim
  | succ n ih =>
    intro m l0 l1 l2 σ h
    cases m with
    | zero => exact trivial
    | succ m =>
      unfold wX0_takeFirstFor_2 at h
      unfold vX0_takeFirstFor_2
      intro e1
      have h := h.2
      obtain ⟨a9', e2, h⟩ := h
      intro a9 e3
      have x9 : a9' = a9 := Option.some.inj (e2.symm.trans e3)
      rw [x9] at h
      intro e4
      have h := h.2
      refine jaJx4a65c_size_8abf5 ?_ _ _ h
      intro r12 σ11 h
      refine ⟨?_, ?_⟩
      · have h := h.1
        intro e5
        have h := h e5
        exact hQ _ _ h
      · have h := h.2
        intro e6
        have h := h e6
        intro e7
        have h := h.2
        obtain ⟨a16', e8, h⟩ := h
        intro a16 e9
        have x9 : a16' = a16 := Option.some.inj (e8.symm.trans e9)
        rw [x9] at h
        intro e10
        have h := h.2
        refine jaJx4a65c_get_915e3 ?_ _ _ _ h
        intro q19 σ18 h
        obtain ⟨a21', e11, h⟩ := h
        intro a21 e12
        have x9 : a21' = a21 := Option.some.inj (e11.symm.trans e12)
        rw [x9] at h
        intro e13
        have h := h.2
        intro e14
        have h := h.2
        refine ⟨?_, ?_⟩
        · have h := h.1
          intro e15
          have h := h e15
          exact jaX0_takeFirstFor_64 (k2 := wX0_takeFirstFor_2 k51 Q n) (k2' := vX0_takeFirstFor_2 k51' Q' m) (fun _ _ _ _ h => ih m _ _ _ _ h) hQ _ _ _ _ h
        · have h := h.2
          intro e16
          have h := h e16
          refine ⟨?_, ?_⟩
          · have h := h.1
            intro e17
            have h := h e17
            exact jaX0_takeFirstFor_64 (k2 := wX0_takeFirstFor_2 k51 Q n) (k2' := vX0_takeFirstFor_2 k51' Q' m) (fun _ _ _ _ h => ih m _ _ _ _ h) hQ _ _ _ _ h
          · have h := h.2
            intro e18
            have h := h e18
            exact hk51 _ _ _ _ h
set_option maxRecDepth 100000 in
set_option maxHeartbeats 4000000 in
theorem jfX0_takeFirstFor_2 {I : kx_S → Prop} (W : fw_ I []) {k51 : Nat → Int32 → Nat → kx_S → Prop} (hk51 : ∀ y0 y1 y2 y3, I y3 → k51 y0 y1 y2 y3) {Q : Option Nat → kx_S → Prop} (hQ : ∀ y0 y1, I y1 → Q y0 y1) : ∀ (n : Nat) (l0 : Nat) (l1 : Nat) (l2 : Int32) (σ : kx_S), I σ → vX0_takeFirstFor_2 k51 Q n l0 l1 l2 σ := by
  intro n
  induction n with
  | zero => intro l0 l1 l2 σ i; exact trivial
  | succ n ih =>
    intro l0 l1 l2 σ i
    unfold vX0_takeFirstFor_2
    intro e1
    intro a9 e2
    intro e3
    refine jfJx4a65c_size_8abf5 (I := I) (fw_sub W (by decide)) ?_ _ _ i
    intro r12 σ11 iσ11
    refine ⟨?_, ?_⟩
    · intro e4
      exact hQ _ _ iσ11
    · intro e5
      intro e6
      intro a16 e7
      intro e8
      refine jfJx4a65c_get_915e3 (I := I) (fw_sub W (by decide)) ?_ _ _ _ iσ11
      intro q19 σ18 iσ18
      intro a21 e9
      intro e10
      intro e11
      refine ⟨?_, ?_⟩
      · intro e12
        exact jfX0_takeFirstFor_64 (I := I) (fw_sub W (by decide)) (k2 := vX0_takeFirstFor_2 k51 Q n) (fun _ _ _ _ i => ih _ _ _ _ i) hQ _ _ _ _ iσ18
      · intro e13
        refine ⟨?_, ?_⟩
        · intro e14
          exact jfX0_takeFirstFor_64 (I := I) (fw_sub W (by decide)) (k2 := vX0_takeFirstFor_2 k51 Q n) (fun _ _ _ _ i => ih _ _ _ _ i) hQ _ _ _ _ iσ18
        · intro e15
          exact hk51 _ _ _ _ iσ18
def vX0_takeFirstFor (l0 : Nat) (l1 : Nat) (σ : kx_S) (Q : Option Nat → kx_S → Prop) : Prop := ∀ j, vX0_takeFirstFor_2 (vX0_takeFirstFor_51 Q) Q j l0 l1 0 σ
set_option maxRecDepth 100000 in
set_option maxHeartbeats 4000000 in
theorem jcX0_takeFirstFor {Q Q' Q'' : Option Nat → kx_S → Prop} (hQ : ∀ y0 y1, Q y0 y1 → Q' y0 y1 → Q'' y0 y1) : ∀ (l0 : Nat) (l1 : Nat) (σ : kx_S), wX0_takeFirstFor l0 l1 σ Q → vX0_takeFirstFor l0 l1 σ Q' → wX0_takeFirstFor l0 l1 σ Q'' := by
  intro l0 l1 σ h v
  unfold wX0_takeFirstFor at h
  unfold vX0_takeFirstFor at v
  unfold wX0_takeFirstFor
  obtain ⟨j, h⟩ := h
  refine ⟨j, ?_⟩
  have v := v j
  exact jcX0_takeFirstFor_2 (k51 := wX0_takeFirstFor_51 Q) (k51' := vX0_takeFirstFor_51 Q') (k51'' := wX0_takeFirstFor_51 Q'') (fun _ _ _ _ h v => jcX0_takeFirstFor_51 hQ _ _ _ _ h v) hQ _ _ _ _ _ h v
set_option maxRecDepth 100000 in
set_option maxHeartbeats 4000000 in
theorem jaX0_takeFirstFor {Q Q' : Option Nat → kx_S → Prop} (hQ : ∀ y0 y1, Q y0 y1 → Q' y0 y1) : ∀ (l0 : Nat) (l1 : Nat) (σ : kx_S), wX0_takeFirstFor l0 l1 σ Q → vX0_takeFirstFor l0 l1 σ Q' := by
  intro l0 l1 σ h
  unfold wX0_takeFirstFor at h
  unfold vX0_takeFirstFor
  obtain ⟨j, h⟩ := h
  intro j9
  exact jaX0_takeFirstFor_2 (k51 := wX0_takeFirstFor_51 Q) (k51' := vX0_takeFirstFor_51 Q') (fun _ _ _ _ h => jaX0_takeFirstFor_51 hQ _ _ _ _ h) hQ _ j9 _ _ _ _ h
set_option maxRecDepth 100000 in
set_option maxHeartbeats 4000000 in
theorem jfX0_takeFirstFor {I : kx_S → Prop} (W : fw_ I [16, 18, 1003]) {Q : Option Nat → kx_S → Prop} (hQ : ∀ y0 y1, I y1 → Q y0 y1) : ∀ (l0 : Nat) (l1 : Nat) (σ : kx_S), I σ → vX0_takeFirstFor l0 l1 σ Q := by
  intro l0 l1 σ i
  unfold vX0_takeFirstFor
  intro j
  exact jfX0_takeFirstFor_2 (I := I) (fw_sub W (by decide)) (k51 := vX0_takeFirstFor_51 Q) (fun _ _ _ _ i => jfX0_takeFirstFor_51 (I := I) (fw_sub W (by decide)) hQ _ _ _ _ i) hQ _ _ _ _ _ i
def vX1_init (l0 : Nat) (l1 : Int32) (σ : kx_S) (Q : kx_S → Prop) : Prop := xt σ l0 = 3 → ∀ σ2, σ2 = xsi σ 48 l0 l1 → xc σ2 < kx_N → ∀ p5, xt σ2 p5 = 0 → p5 ≠ xz σ2 → ∀ σ8, σ8 = xnew σ2 p5 1 → vJx4a65c_init_da8c8 p5 σ8 (fun σ10 => xt σ10 l0 = 3 → ∀ σ12, σ12 = xsr σ10 49 l0 (some p5) → Q σ12)
set_option maxRecDepth 100000 in
set_option maxHeartbeats 4000000 in
theorem jcX1_init {Q Q' Q'' : kx_S → Prop} (hQ : ∀ y0, Q y0 → Q' y0 → Q'' y0) : ∀ (l0 : Nat) (l1 : Int32) (σ : kx_S), wX1_init l0 l1 σ Q → vX1_init l0 l1 σ Q' → wX1_init l0 l1 σ Q'' := by
  intro l0 l1 σ h v
  unfold wX1_init at h
  unfold vX1_init at v
  unfold wX1_init
  refine ⟨h.1, ?_⟩
  have v := v h.1
  have h := h.2
  intro σ2 e2
  have h := h σ2 e2
  have v := v σ2 e2
  refine ⟨h.1, ?_⟩
  have v := v h.1
  have h := h.2
  intro p5 e4 e5
  have h := h p5 e4 e5
  have v := v p5 e4 e5
  intro σ8 e6
  have h := h σ8 e6
  have v := v σ8 e6
  refine jcJx4a65c_init_da8c8 ?_ _ _ h v
  intro σ10 h v
  refine ⟨h.1, ?_⟩
  have v := v h.1
  have h := h.2
  intro σ12 e8
  have h := h σ12 e8
  have v := v σ12 e8
  exact hQ _ h v
set_option maxRecDepth 100000 in
set_option maxHeartbeats 4000000 in
theorem jaX1_init {Q Q' : kx_S → Prop} (hQ : ∀ y0, Q y0 → Q' y0) : ∀ (l0 : Nat) (l1 : Int32) (σ : kx_S), wX1_init l0 l1 σ Q → vX1_init l0 l1 σ Q' := by
  intro l0 l1 σ h
  unfold wX1_init at h
  unfold vX1_init
  intro e1
  have h := h.2
  intro σ2 e2
  have h := h σ2 e2
  intro e3
  have h := h.2
  intro p5 e4 e5
  have h := h p5 e4 e5
  intro σ8 e6
  have h := h σ8 e6
  refine jaJx4a65c_init_da8c8 ?_ _ _ h
  intro σ10 h
  intro e7
  have h := h.2
  intro σ12 e8
  have h := h σ12 e8
  exact hQ _ h
set_option maxRecDepth 100000 in
set_option maxHeartbeats 4000000 in
theorem jfX1_init {I : kx_S → Prop} (W : fw_ I [16, 17, 48, 49, 1101]) {Q : kx_S → Prop} (hQ : ∀ y0, I y0 → Q y0) : ∀ (l0 : Nat) (l1 : Int32) (σ : kx_S), I σ → vX1_init l0 l1 σ Q := by
  intro l0 l1 σ i
  unfold vX1_init
  intro e1
  intro σ2 e2
  have iσ2 : I σ2 := by rw [e2]; exact ((W _ i).1 48 (by decide)).1 _ _
  intro e3
  intro p5 e4 e5
  intro σ8 e6
  have iσ8 : I σ8 := by rw [e6]; exact (W _ iσ2).2.2.2.2.2.2.1 1 (by decide) _ e4
  refine jfJx4a65c_init_da8c8 (I := I) (fw_sub W (by decide)) ?_ _ _ iσ8
  intro σ10 iσ10
  intro e7
  intro σ12 e8
  have iσ12 : I σ12 := by rw [e8]; exact ((W _ iσ10).1 49 (by decide)).2.1 _ _
  exact hQ _ iσ12
def vX1_ageLogs_70 (k12 : Nat → Int32 → kx_S → Prop) (Q : kx_S → Prop) (l0 : Nat) (l1 : Int32) (σ : kx_S) : Prop := ∀ v1 : Int32, v1 = l1 + (-1) → k12 l0 v1 σ
set_option maxRecDepth 100000 in
set_option maxHeartbeats 4000000 in
theorem jcX1_ageLogs_70 {k12 k12' k12'' : Nat → Int32 → kx_S → Prop} (hk12 : ∀ y0 y1 y2, k12 y0 y1 y2 → k12' y0 y1 y2 → k12'' y0 y1 y2) {Q Q' Q'' : kx_S → Prop} (hQ : ∀ y0, Q y0 → Q' y0 → Q'' y0) : ∀ (l0 : Nat) (l1 : Int32) (σ : kx_S), wX1_ageLogs_70 k12 Q l0 l1 σ → vX1_ageLogs_70 k12' Q' l0 l1 σ → wX1_ageLogs_70 k12'' Q'' l0 l1 σ := by
  intro l0 l1 σ h v
  unfold wX1_ageLogs_70 at h
  unfold vX1_ageLogs_70 at v
  unfold wX1_ageLogs_70
  intro v1 e1
  have h := h v1 e1
  have v := v v1 e1
  exact hk12 _ _ _ h v
set_option maxRecDepth 100000 in
set_option maxHeartbeats 4000000 in
theorem jaX1_ageLogs_70 {k12 k12' : Nat → Int32 → kx_S → Prop} (hk12 : ∀ y0 y1 y2, k12 y0 y1 y2 → k12' y0 y1 y2) {Q Q' : kx_S → Prop} (hQ : ∀ y0, Q y0 → Q' y0) : ∀ (l0 : Nat) (l1 : Int32) (σ : kx_S), wX1_ageLogs_70 k12 Q l0 l1 σ → vX1_ageLogs_70 k12' Q' l0 l1 σ := by
  intro l0 l1 σ h
  unfold wX1_ageLogs_70 at h
  unfold vX1_ageLogs_70
  intro v1 e1
  have h := h v1 e1
  exact hk12 _ _ _ h
set_option maxRecDepth 100000 in
set_option maxHeartbeats 4000000 in
theorem jfX1_ageLogs_70 {I : kx_S → Prop} (W : fw_ I []) {k12 : Nat → Int32 → kx_S → Prop} (hk12 : ∀ y0 y1 y2, I y2 → k12 y0 y1 y2) {Q : kx_S → Prop} (hQ : ∀ y0, I y0 → Q y0) : ∀ (l0 : Nat) (l1 : Int32) (σ : kx_S), I σ → vX1_ageLogs_70 k12 Q l0 l1 σ := by
  intro l0 l1 σ i
  unfold vX1_ageLogs_70
  intro v1 e1
  exact hk12 _ _ _ i
def vX1_ageLogs_12 (Q : kx_S → Prop) : Nat → Nat → Int32 → kx_S → Prop
  | 0, _, _, _ => True
  | n + 1, l0, l1, σ => ((l1 < 0 → Q σ) ∧ (¬ (l1 < 0) → xt σ l0 = 3 → ∀ a4, xr σ 49 l0 = some a4 → xt σ a4 = 1 → vJx4a65c_get_915e3 a4 l1 σ (fun q7 σ6 => ∀ a9, q7 = some a9 → xt σ6 a9 = 8 → ∀ σ12, σ12 = xsi σ6 135 a9 ((xi σ6 135 a9) + 1) → (((xi σ12 135 a9) < (24 * (xi σ12 130 a9)) → vX1_ageLogs_70 (vX1_ageLogs_12 Q n) Q l0 l1 σ12) ∧ (¬ ((xi σ12 135 a9) < (24 * (xi σ12 130 a9))) → ∀ σ15, σ15 = xsi σ12 132 a9 5 → xt σ15 l0 = 3 → ∀ a18, xr σ15 49 l0 = some a18 → xt σ15 a18 = 1 → vJx4a65c_remove_915e3 a18 l1 σ15 (fun q21 σ20 => vX1_ageLogs_70 (vX1_ageLogs_12 Q n) Q l0 l1 σ20))))))
set_option maxRecDepth 100000 in
set_option maxHeartbeats 4000000 in
theorem jcX1_ageLogs_12 {Q Q' Q'' : kx_S → Prop} (hQ : ∀ y0, Q y0 → Q' y0 → Q'' y0) : ∀ (n : Nat) (l0 : Nat) (l1 : Int32) (σ : kx_S), wX1_ageLogs_12 Q n l0 l1 σ → vX1_ageLogs_12 Q' n l0 l1 σ → wX1_ageLogs_12 Q'' n l0 l1 σ := by
  intro n
  induction n with
  | zero => intro l0 l1 σ h; exact h.elim
  | succ n ih =>
    intro l0 l1 σ h v
    unfold wX1_ageLogs_12 at h
    unfold vX1_ageLogs_12 at v
    unfold wX1_ageLogs_12
    refine ⟨?_, ?_⟩
    · have h := h.1
      have v := v.1
      intro e1
      have h := h e1
      have v := v e1
      exact hQ _ h v
    · have h := h.2
      have v := v.2
      intro e2
      have h := h e2
      have v := v e2
      refine ⟨h.1, ?_⟩
      have v := v h.1
      have h := h.2
      obtain ⟨a4, e4, h⟩ := h
      refine ⟨a4, e4, ?_⟩
      have v := v a4 e4
      refine ⟨h.1, ?_⟩
      have v := v h.1
      have h := h.2
      refine jcJx4a65c_get_915e3 ?_ _ _ _ h v
      intro q7 σ6 h v
      obtain ⟨a9, e6, h⟩ := h
      refine ⟨a9, e6, ?_⟩
      have v := v a9 e6
      refine ⟨h.1, ?_⟩
      have v := v h.1
      have h := h.2
      intro σ12 e8
      have h := h σ12 e8
      have v := v σ12 e8
      refine ⟨?_, ?_⟩
      · have h := h.1
        have v := v.1
        intro e9
        have h := h e9
        have v := v e9
        exact jcX1_ageLogs_70 (k12 := wX1_ageLogs_12 Q n) (k12' := vX1_ageLogs_12 Q' n) (k12'' := wX1_ageLogs_12 Q'' n) (fun _ _ _ h v => ih _ _ _ h v) hQ _ _ _ h v
      · have h := h.2
        have v := v.2
        intro e10
        have h := h e10
        have v := v e10
        intro σ15 e11
        have h := h σ15 e11
        have v := v σ15 e11
        refine ⟨h.1, ?_⟩
        have v := v h.1
        have h := h.2
        obtain ⟨a18, e13, h⟩ := h
        refine ⟨a18, e13, ?_⟩
        have v := v a18 e13
        refine ⟨h.1, ?_⟩
        have v := v h.1
        have h := h.2
        refine jcJx4a65c_remove_915e3 ?_ _ _ _ h v
        intro q21 σ20 h v
        exact jcX1_ageLogs_70 (k12 := wX1_ageLogs_12 Q n) (k12' := vX1_ageLogs_12 Q' n) (k12'' := wX1_ageLogs_12 Q'' n) (fun _ _ _ h v => ih _ _ _ h v) hQ _ _ _ h v
set_option maxRecDepth 100000 in
set_option maxHeartbeats 4000000 in
theorem jaX1_ageLogs_12 {Q Q' : kx_S → Prop} (hQ : ∀ y0, Q y0 → Q' y0) : ∀ (n m : Nat) (l0 : Nat) (l1 : Int32) (σ : kx_S), wX1_ageLogs_12 Q n l0 l1 σ → vX1_ageLogs_12 Q' m l0 l1 σ := by
  intro n
  induction n with
  | zero => intro m l0 l1 σ h; exact h.elim
  | succ n ih =>
    intro m l0 l1 σ h
    cases m with
    | zero => exact trivial
    | succ m =>
      unfold wX1_ageLogs_12 at h
      unfold vX1_ageLogs_12
      refine ⟨?_, ?_⟩
      · have h := h.1
        intro e1
        have h := h e1
        exact hQ _ h
      · have h := h.2
        intro e2
        have h := h e2
        intro e3
        have h := h.2
        obtain ⟨a4', e4, h⟩ := h
        intro a4 e5
        have x9 : a4' = a4 := Option.some.inj (e4.symm.trans e5)
        rw [x9] at h
        intro e6
        have h := h.2
        refine jaJx4a65c_get_915e3 ?_ _ _ _ h
        intro q7 σ6 h
        obtain ⟨a9', e7, h⟩ := h
        intro a9 e8
        have x9 : a9' = a9 := Option.some.inj (e7.symm.trans e8)
        rw [x9] at h
        intro e9
        have h := h.2
        intro σ12 e10
        have h := h σ12 e10
        refine ⟨?_, ?_⟩
        · have h := h.1
          intro e11
          have h := h e11
          exact jaX1_ageLogs_70 (k12 := wX1_ageLogs_12 Q n) (k12' := vX1_ageLogs_12 Q' m) (fun _ _ _ h => ih m _ _ _ h) hQ _ _ _ h
        · have h := h.2
          intro e12
          have h := h e12
          intro σ15 e13
          have h := h σ15 e13
          intro e14
          have h := h.2
          obtain ⟨a18', e15, h⟩ := h
          intro a18 e16
          have x9 : a18' = a18 := Option.some.inj (e15.symm.trans e16)
          rw [x9] at h
          intro e17
          have h := h.2
          refine jaJx4a65c_remove_915e3 ?_ _ _ _ h
          intro q21 σ20 h
          exact jaX1_ageLogs_70 (k12 := wX1_ageLogs_12 Q n) (k12' := vX1_ageLogs_12 Q' m) (fun _ _ _ h => ih m _ _ _ h) hQ _ _ _ h
set_option maxRecDepth 100000 in
set_option maxHeartbeats 4000000 in
theorem jfX1_ageLogs_12 {I : kx_S → Prop} (W : fw_ I [16, 18, 132, 135, 1003]) {Q : kx_S → Prop} (hQ : ∀ y0, I y0 → Q y0) : ∀ (n : Nat) (l0 : Nat) (l1 : Int32) (σ : kx_S), I σ → vX1_ageLogs_12 Q n l0 l1 σ := by
  intro n
  induction n with
  | zero => intro l0 l1 σ i; exact trivial
  | succ n ih =>
    intro l0 l1 σ i
    unfold vX1_ageLogs_12
    refine ⟨?_, ?_⟩
    · intro e1
      exact hQ _ i
    · intro e2
      intro e3
      intro a4 e4
      intro e5
      refine jfJx4a65c_get_915e3 (I := I) (fw_sub W (by decide)) ?_ _ _ _ i
      intro q7 σ6 iσ6
      intro a9 e6
      intro e7
      intro σ12 e8
      have iσ12 : I σ12 := by rw [e8]; exact ((W _ iσ6).1 135 (by decide)).1 _ _
      refine ⟨?_, ?_⟩
      · intro e9
        exact jfX1_ageLogs_70 (I := I) (fw_sub W (by decide)) (k12 := vX1_ageLogs_12 Q n) (fun _ _ _ i => ih _ _ _ i) hQ _ _ _ iσ12
      · intro e10
        intro σ15 e11
        have iσ15 : I σ15 := by rw [e11]; exact ((W _ iσ12).1 132 (by decide)).1 _ _
        intro e12
        intro a18 e13
        intro e14
        refine jfJx4a65c_remove_915e3 (I := I) (fw_sub W (by decide)) ?_ _ _ _ iσ15
        intro q21 σ20 iσ20
        exact jfX1_ageLogs_70 (I := I) (fw_sub W (by decide)) (k12 := vX1_ageLogs_12 Q n) (fun _ _ _ i => ih _ _ _ i) hQ _ _ _ iσ20
def vX1_ageLogs (l0 : Nat) (σ : kx_S) (Q : kx_S → Prop) : Prop := xt σ l0 = 3 → ∀ a24, xr σ 49 l0 = some a24 → xt σ a24 = 1 → vJx4a65c_size_8abf5 a24 σ (fun r27 σ26 => ∀ v29, v29 = r27 - 1 → ∀ j, vX1_ageLogs_12 Q j l0 v29 σ26)
set_option maxRecDepth 100000 in
set_option maxHeartbeats 4000000 in
theorem jcX1_ageLogs {Q Q' Q'' : kx_S → Prop} (hQ : ∀ y0, Q y0 → Q' y0 → Q'' y0) : ∀ (l0 : Nat) (σ : kx_S), wX1_ageLogs l0 σ Q → vX1_ageLogs l0 σ Q' → wX1_ageLogs l0 σ Q'' := by
  intro l0 σ h v
  unfold wX1_ageLogs at h
  unfold vX1_ageLogs at v
  unfold wX1_ageLogs
  refine ⟨h.1, ?_⟩
  have v := v h.1
  have h := h.2
  obtain ⟨a24, e2, h⟩ := h
  refine ⟨a24, e2, ?_⟩
  have v := v a24 e2
  refine ⟨h.1, ?_⟩
  have v := v h.1
  have h := h.2
  refine jcJx4a65c_size_8abf5 ?_ _ _ h v
  intro r27 σ26 h v
  intro v29 e4
  have h := h v29 e4
  have v := v v29 e4
  obtain ⟨j, h⟩ := h
  refine ⟨j, ?_⟩
  have v := v j
  exact jcX1_ageLogs_12 hQ _ _ _ _ h v
set_option maxRecDepth 100000 in
set_option maxHeartbeats 4000000 in
theorem jaX1_ageLogs {Q Q' : kx_S → Prop} (hQ : ∀ y0, Q y0 → Q' y0) : ∀ (l0 : Nat) (σ : kx_S), wX1_ageLogs l0 σ Q → vX1_ageLogs l0 σ Q' := by
  intro l0 σ h
  unfold wX1_ageLogs at h
  unfold vX1_ageLogs
  intro e1
  have h := h.2
  obtain ⟨a24', e2, h⟩ := h
  intro a24 e3
  have x9 : a24' = a24 := Option.some.inj (e2.symm.trans e3)
  rw [x9] at h
  intro e4
  have h := h.2
  refine jaJx4a65c_size_8abf5 ?_ _ _ h
  intro r27 σ26 h
  intro v29 e5
  have h := h v29 e5
  obtain ⟨j, h⟩ := h
  intro j9
  exact jaX1_ageLogs_12 hQ _ j9 _ _ _ h
set_option maxRecDepth 100000 in
set_option maxHeartbeats 4000000 in
theorem jfX1_ageLogs {I : kx_S → Prop} (W : fw_ I [16, 18, 132, 135, 1003]) {Q : kx_S → Prop} (hQ : ∀ y0, I y0 → Q y0) : ∀ (l0 : Nat) (σ : kx_S), I σ → vX1_ageLogs l0 σ Q := by
  intro l0 σ i
  unfold vX1_ageLogs
  intro e1
  intro a24 e2
  intro e3
  refine jfJx4a65c_size_8abf5 (I := I) (fw_sub W (by decide)) ?_ _ _ i
  intro r27 σ26 iσ26
  intro v29 e4
  intro j
  exact jfX1_ageLogs_12 (I := I) (fw_sub W (by decide)) hQ _ _ _ _ iσ26
def vX2_init (l0 : Nat) (l1 : Nat) (l2 : Int32) (σ : kx_S) (Q : kx_S → Prop) : Prop := xt σ l0 = 4 → ∀ σ2, σ2 = xsr σ 64 l0 (some l1) → ∀ σ4, σ4 = xsi σ2 65 l0 (l2 + 1) → Q σ4
set_option maxRecDepth 100000 in
set_option maxHeartbeats 4000000 in
theorem jcX2_init {Q Q' Q'' : kx_S → Prop} (hQ : ∀ y0, Q y0 → Q' y0 → Q'' y0) : ∀ (l0 : Nat) (l1 : Nat) (l2 : Int32) (σ : kx_S), wX2_init l0 l1 l2 σ Q → vX2_init l0 l1 l2 σ Q' → wX2_init l0 l1 l2 σ Q'' := by
  intro l0 l1 l2 σ h v
  unfold wX2_init at h
  unfold vX2_init at v
  unfold wX2_init
  refine ⟨h.1, ?_⟩
  have v := v h.1
  have h := h.2
  intro σ2 e2
  have h := h σ2 e2
  have v := v σ2 e2
  intro σ4 e3
  have h := h σ4 e3
  have v := v σ4 e3
  exact hQ _ h v
set_option maxRecDepth 100000 in
set_option maxHeartbeats 4000000 in
theorem jaX2_init {Q Q' : kx_S → Prop} (hQ : ∀ y0, Q y0 → Q' y0) : ∀ (l0 : Nat) (l1 : Nat) (l2 : Int32) (σ : kx_S), wX2_init l0 l1 l2 σ Q → vX2_init l0 l1 l2 σ Q' := by
  intro l0 l1 l2 σ h
  unfold wX2_init at h
  unfold vX2_init
  intro e1
  have h := h.2
  intro σ2 e2
  have h := h σ2 e2
  intro σ4 e3
  have h := h σ4 e3
  exact hQ _ h
set_option maxRecDepth 100000 in
set_option maxHeartbeats 4000000 in
theorem jfX2_init {I : kx_S → Prop} (W : fw_ I [64, 65]) {Q : kx_S → Prop} (hQ : ∀ y0, I y0 → Q y0) : ∀ (l0 : Nat) (l1 : Nat) (l2 : Int32) (σ : kx_S), I σ → vX2_init l0 l1 l2 σ Q := by
  intro l0 l1 l2 σ i
  unfold vX2_init
  intro e1
  intro σ2 e2
  have iσ2 : I σ2 := by rw [e2]; exact ((W _ i).1 64 (by decide)).2.1 _ _
  intro σ4 e3
  have iσ4 : I σ4 := by rw [e3]; exact ((W _ iσ2).1 65 (by decide)).1 _ _
  exact hQ _ iσ4
def vX2_come (l0 : Nat) (l1 : Nat) (l2 : Int32) (σ : kx_S) (Q : kx_S → Prop) : Prop := xt σ l0 = 4 → ∀ σ2, σ2 = xsr σ 64 l0 (some l1) → ∀ σ4, σ4 = xsi σ2 65 l0 (l2 + 1) → Q σ4
set_option maxRecDepth 100000 in
set_option maxHeartbeats 4000000 in
theorem jcX2_come {Q Q' Q'' : kx_S → Prop} (hQ : ∀ y0, Q y0 → Q' y0 → Q'' y0) : ∀ (l0 : Nat) (l1 : Nat) (l2 : Int32) (σ : kx_S), wX2_come l0 l1 l2 σ Q → vX2_come l0 l1 l2 σ Q' → wX2_come l0 l1 l2 σ Q'' := by
  intro l0 l1 l2 σ h v
  unfold wX2_come at h
  unfold vX2_come at v
  unfold wX2_come
  refine ⟨h.1, ?_⟩
  have v := v h.1
  have h := h.2
  intro σ2 e2
  have h := h σ2 e2
  have v := v σ2 e2
  intro σ4 e3
  have h := h σ4 e3
  have v := v σ4 e3
  exact hQ _ h v
set_option maxRecDepth 100000 in
set_option maxHeartbeats 4000000 in
theorem jaX2_come {Q Q' : kx_S → Prop} (hQ : ∀ y0, Q y0 → Q' y0) : ∀ (l0 : Nat) (l1 : Nat) (l2 : Int32) (σ : kx_S), wX2_come l0 l1 l2 σ Q → vX2_come l0 l1 l2 σ Q' := by
  intro l0 l1 l2 σ h
  unfold wX2_come at h
  unfold vX2_come
  intro e1
  have h := h.2
  intro σ2 e2
  have h := h σ2 e2
  intro σ4 e3
  have h := h σ4 e3
  exact hQ _ h
set_option maxRecDepth 100000 in
set_option maxHeartbeats 4000000 in
theorem jfX2_come {I : kx_S → Prop} (W : fw_ I [64, 65]) {Q : kx_S → Prop} (hQ : ∀ y0, I y0 → Q y0) : ∀ (l0 : Nat) (l1 : Nat) (l2 : Int32) (σ : kx_S), I σ → vX2_come l0 l1 l2 σ Q := by
  intro l0 l1 l2 σ i
  unfold vX2_come
  intro e1
  intro σ2 e2
  have iσ2 : I σ2 := by rw [e2]; exact ((W _ i).1 64 (by decide)).2.1 _ _
  intro σ4 e3
  have iσ4 : I σ4 := by rw [e3]; exact ((W _ iσ2).1 65 (by decide)).1 _ _
  exact hQ _ iσ4

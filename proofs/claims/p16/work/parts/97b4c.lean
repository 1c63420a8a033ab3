def vX11_lawInForce_50 (k4 : Nat → (Option Nat) → Int32 → kx_S → Prop) (Q : Option Nat → kx_S → Prop) (l0 : Nat) (l1 : Option Nat) (l2 : Int32) (l3 : Nat) (s0 : Int32) (σ : kx_S) : Prop := ((s0 = 0 → vX11_lawInForce_74 k4 Q l0 l1 l2 σ) ∧ (¬ (s0 = 0) → ((l1 = none → vX11_lawInForce_72 (vX11_lawInForce_74 k4 Q) Q l0 l2 l3 σ) ∧ (∀ a4, l1 = some a4 → xt σ l3 = 6 → xt σ a4 = 6 → (((xi σ 96 l3) < (xi σ 96 a4) → vX11_lawInForce_74 k4 Q l0 (some a4) l2 σ) ∧ (¬ ((xi σ 96 l3) < (xi σ 96 a4)) → vX11_lawInForce_72 (vX11_lawInForce_74 k4 Q) Q l0 l2 l3 σ))))))
set_option maxRecDepth 100000 in
set_option maxHeartbeats 4000000 in
theorem jcX11_lawInForce_50 {k4 k4' k4'' : Nat → (Option Nat) → Int32 → kx_S → Prop} (hk4 : ∀ y0 y1 y2 y3, k4 y0 y1 y2 y3 → k4' y0 y1 y2 y3 → k4'' y0 y1 y2 y3) {Q Q' Q'' : Option Nat → kx_S → Prop} (hQ : ∀ y0 y1, Q y0 y1 → Q' y0 y1 → Q'' y0 y1) : ∀ (l0 : Nat) (l1 : Option Nat) (l2 : Int32) (l3 : Nat) (s0 : Int32) (σ : kx_S), wX11_lawInForce_50 k4 Q l0 l1 l2 l3 s0 σ → vX11_lawInForce_50 k4' Q' l0 l1 l2 l3 s0 σ → wX11_lawInForce_50 k4'' Q'' l0 l1 l2 l3 s0 σ := by
  intro l0 l1 l2 l3 s0 σ h v
  unfold wX11_lawInForce_50 at h
  unfold vX11_lawInForce_50 at v
  unfold wX11_lawInForce_50
  refine ⟨?_, ?_⟩
  · have h := h.1
    have v := v.1
    intro e1
    have h := h e1
    have v := v e1
    exact jcX11_lawInForce_74 hk4 hQ _ _ _ _ h v
  · have h := h.2
    have v := v.2
    intro e2
    have h := h e2
    have v := v e2
    refine ⟨?_, ?_⟩
    · have h := h.1
      have v := v.1
      intro e3
      have h := h e3
      have v := v e3
      exact jcX11_lawInForce_72 (k74 := wX11_lawInForce_74 k4 Q) (k74' := vX11_lawInForce_74 k4' Q') (k74'' := wX11_lawInForce_74 k4'' Q'') (fun _ _ _ _ h v => jcX11_lawInForce_74 hk4 hQ _ _ _ _ h v) hQ _ _ _ _ h v
    · have h := h.2
      have v := v.2
      intro a4 e4
      have h := h a4 e4
      have v := v a4 e4
      refine ⟨h.1, ?_⟩
      have v := v h.1
      have h := h.2
      refine ⟨h.1, ?_⟩
      have v := v h.1
      have h := h.2
      refine ⟨?_, ?_⟩
      · have h := h.1
        have v := v.1
        intro e7
        have h := h e7
        have v := v e7
        exact jcX11_lawInForce_74 hk4 hQ _ _ _ _ h v
      · have h := h.2
        have v := v.2
        intro e8
        have h := h e8
        have v := v e8
        exact jcX11_lawInForce_72 (k74 := wX11_lawInForce_74 k4 Q) (k74' := vX11_lawInForce_74 k4' Q') (k74'' := wX11_lawInForce_74 k4'' Q'') (fun _ _ _ _ h v => jcX11_lawInForce_74 hk4 hQ _ _ _ _ h v) hQ _ _ _ _ h v
set_option maxRecDepth 100000 in
set_option maxHeartbeats 4000000 in
theorem jaX11_lawInForce_50 {k4 k4' : Nat → (Option Nat) → Int32 → kx_S → Prop} (hk4 : ∀ y0 y1 y2 y3, k4 y0 y1 y2 y3 → k4' y0 y1 y2 y3) {Q Q' : Option Nat → kx_S → Prop} (hQ : ∀ y0 y1, Q y0 y1 → Q' y0 y1) : ∀ (l0 : Nat) (l1 : Option Nat) (l2 : Int32) (l3 : Nat) (s0 : Int32) (σ : kx_S), wX11_lawInForce_50 k4 Q l0 l1 l2 l3 s0 σ → vX11_lawInForce_50 k4' Q' l0 l1 l2 l3 s0 σ := by
  intro l0 l1 l2 l3 s0 σ h
  unfold wX11_lawInForce_50 at h
  unfold vX11_lawInForce_50
  refine ⟨?_, ?_⟩
  · have h := h.1
    intro e1
    have h := h e1
    exact jaX11_lawInForce_74 hk4 hQ _ _ _ _ h
  · have h := h.2
    intro e2
    have h := h e2
    refine ⟨?_, ?_⟩
    · have h := h.1
      intro e3
      have h := h e3
      exact jaX11_lawInForce_72 (k74 := wX11_lawInForce_74 k4 Q) (k74' := vX11_lawInForce_74 k4' Q') (fun _ _ _ _ h => jaX11_lawInForce_74 hk4 hQ _ _ _ _ h) hQ _ _ _ _ h
    · have h := h.2
      intro a4 e4
      have h := h a4 e4
      intro e5
      have h := h.2
      intro e6
      have h := h.2
      refine ⟨?_, ?_⟩
      · have h := h.1
        intro e7
        have h := h e7
        exact jaX11_lawInForce_74 hk4 hQ _ _ _ _ h
      · have h := h.2
        intro e8
        have h := h e8
        exact jaX11_lawInForce_72 (k74 := wX11_lawInForce_74 k4 Q) (k74' := vX11_lawInForce_74 k4' Q') (fun _ _ _ _ h => jaX11_lawInForce_74 hk4 hQ _ _ _ _ h) hQ _ _ _ _ h
set_option maxRecDepth 100000 in
set_option maxHeartbeats 4000000 in
theorem jfX11_lawInForce_50 {I : kx_S → Prop} (W : fw_ I []) {k4 : Nat → (Option Nat) → Int32 → kx_S → Prop} (hk4 : ∀ y0 y1 y2 y3, I y3 → k4 y0 y1 y2 y3) {Q : Option Nat → kx_S → Prop} (hQ : ∀ y0 y1, I y1 → Q y0 y1) : ∀ (l0 : Nat) (l1 : Option Nat) (l2 : Int32) (l3 : Nat) (s0 : Int32) (σ : kx_S), I σ → vX11_lawInForce_50 k4 Q l0 l1 l2 l3 s0 σ := by
  intro l0 l1 l2 l3 s0 σ i
  unfold vX11_lawInForce_50
  refine ⟨?_, ?_⟩
  · intro e1
    exact jfX11_lawInForce_74 (I := I) (fw_sub W (by decide)) hk4 hQ _ _ _ _ i
  · intro e2
    refine ⟨?_, ?_⟩
    · intro e3
      exact jfX11_lawInForce_72 (I := I) (fw_sub W (by decide)) (k74 := vX11_lawInForce_74 k4 Q) (fun _ _ _ _ i => jfX11_lawInForce_74 (I := I) (fw_sub W (by decide)) hk4 hQ _ _ _ _ i) hQ _ _ _ _ i
    · intro a4 e4
      intro e5
      intro e6
      refine ⟨?_, ?_⟩
      · intro e7
        exact jfX11_lawInForce_74 (I := I) (fw_sub W (by decide)) hk4 hQ _ _ _ _ i
      · intro e8
        exact jfX11_lawInForce_72 (I := I) (fw_sub W (by decide)) (k74 := vX11_lawInForce_74 k4 Q) (fun _ _ _ _ i => jfX11_lawInForce_74 (I := I) (fw_sub W (by decide)) hk4 hQ _ _ _ _ i) hQ _ _ _ _ i
def vX11_lawInForce_4 (Q : Option Nat → kx_S → Prop) : Nat → Nat → (Option Nat) → Int32 → kx_S → Prop
  | 0, _, _, _, _ => True
  | n + 1, l0, l1, l2, σ => xt σ l0 = 13 → ∀ a9, xr σ 210 l0 = some a9 → xt σ a9 = 1 → vJx4a65c_size_8abf5 a9 σ (fun r12 σ11 => ((r12 ≤ l2 → Q l1 σ11) ∧ (¬ (r12 ≤ l2) → xt σ11 l0 = 13 → ∀ a16, xr σ11 210 l0 = some a16 → xt σ11 a16 = 1 → vJx4a65c_get_915e3 a16 l2 σ11 (fun q19 σ18 => ∀ a21, q19 = some a21 → xt σ18 a21 = 6 → xt σ18 l0 = 13 → ((((xi σ18 217 l0) / 24) < (xi σ18 96 a21) → vX11_lawInForce_50 (vX11_lawInForce_4 Q n) Q l0 l1 l2 a21 0 σ18) ∧ (¬ (((xi σ18 217 l0) / 24) < (xi σ18 96 a21)) → vX11_lawInForce_50 (vX11_lawInForce_4 Q n) Q l0 l1 l2 a21 1 σ18))))))
set_option maxRecDepth 100000 in
set_option maxHeartbeats 4000000 in
theorem jcX11_lawInForce_4 {Q Q' Q'' : Option Nat → kx_S → Prop} (hQ : ∀ y0 y1, Q y0 y1 → Q' y0 y1 → Q'' y0 y1) : ∀ (n : Nat) (l0 : Nat) (l1 : (Option Nat)) (l2 : Int32) (σ : kx_S), wX11_lawInForce_4 Q n l0 l1 l2 σ → vX11_lawInForce_4 Q' n l0 l1 l2 σ → wX11_lawInForce_4 Q'' n l0 l1 l2 σ := by
  intro n
  induction n with
  | zero => intro l0 l1 l2 σ h; exact h.elim
  | succ n ih =>
    intro l0 l1 l2 σ h v
    unfold wX11_lawInForce_4 at h
    unfold vX11_lawInForce_4 at v
    unfold wX11_lawInForce_4
    refine ⟨h.1, ?_⟩
    have v := v h.1
    have h := h.2
    obtain ⟨a9, e2, h⟩ := h
    refine ⟨a9, e2, ?_⟩
    have v := v a9 e2
    refine ⟨h.1, ?_⟩
    have v := v h.1
    have h := h.2
    refine jcJx4a65c_size_8abf5 ?_ _ _ h v
    intro r12 σ11 h v
    refine ⟨?_, ?_⟩
    · have h := h.1
      have v := v.1
      intro e4
      have h := h e4
      have v := v e4
      exact hQ _ _ h v
    · have h := h.2
      have v := v.2
      intro e5
      have h := h e5
      have v := v e5
      refine ⟨h.1, ?_⟩
      have v := v h.1
      have h := h.2
      obtain ⟨a16, e7, h⟩ := h
      refine ⟨a16, e7, ?_⟩
      have v := v a16 e7
      refine ⟨h.1, ?_⟩
      have v := v h.1
      have h := h.2
      refine jcJx4a65c_get_915e3 ?_ _ _ _ h v
      intro q19 σ18 h v
      obtain ⟨a21, e9, h⟩ := h
      refine ⟨a21, e9, ?_⟩
      have v := v a21 e9
      refine ⟨h.1, ?_⟩
      have v := v h.1
      have h := h.2
      refine ⟨h.1, ?_⟩
      have v := v h.1
      have h := h.2
      refine ⟨?_, ?_⟩
      · have h := h.1
        have v := v.1
        intro e12
        have h := h e12
        have v := v e12
        exact jcX11_lawInForce_50 (k4 := wX11_lawInForce_4 Q n) (k4' := vX11_lawInForce_4 Q' n) (k4'' := wX11_lawInForce_4 Q'' n) (fun _ _ _ _ h v => ih _ _ _ _ h v) hQ _ _ _ _ _ _ h v
      · have h := h.2
        have v := v.2
        intro e13
        have h := h e13
        have v := v e13
        exact jcX11_lawInForce_50 (k4 := wX11_lawInForce_4 Q n) (k4' := vX11_lawInForce_4 Q' n) (k4'' := wX11_lawInForce_4 Q'' n) (fun _ _ _ _ h v => ih _ _ _ _ h v) hQ _ _ _ _ _ _ h v
set_option maxRecDepth 100000 in
set_option maxHeartbeats 4000000 in
theorem jaX11_lawInForce_4 {Q Q' : Option Nat → kx_S → Prop} (hQ : ∀ y0 y1, Q y0 y1 → Q' y0 y1) : ∀ (n m : Nat) (l0 : Nat) (l1 : (Option Nat)) (l2 : Int32) (σ : kx_S), wX11_lawInForce_4 Q n l0 l1 l2 σ → vX11_lawInForce_4 Q' m l0 l1 l2 σ := by
  intro n
  induction n with
  | zero => intro m l0 l1 l2 σ h; exact h.elim
  | succ n ih =>
    intro m l0 l1 l2 σ h
    cases m with
    | zero => exact trivial
    | succ m =>
      unfold wX11_lawInForce_4 at h
      unfold vX11_lawInForce_4
      intro e1
      have h := h.2
      obtain ⟨a9', e2, h⟩ := h
      intro a9 e3
      have x9 : a9' = a9 := Option.some.inj (e2.symm.trans e3)
      rw [x9] at h
      intro e4
      have h := h.2
      refine jaJx4a65c_size_8abf5 ?_ _ _ h
      intro r12 σ11 h
      refine ⟨?_, ?_⟩
      · have h := h.1
        intro e5
        have h := h e5
        exact hQ _ _ h
      · have h := h.2
        intro e6
        have h := h e6
        intro e7
        have h := h.2
        obtain ⟨a16', e8, h⟩ := h
        intro a16 e9
        have x9 : a16' = a16 := Option.some.inj (e8.symm.trans e9)
        rw [x9] at h
        intro e10
        have h := h.2
        refine jaJx4a65c_get_915e3 ?_ _ _ _ h
        intro q19 σ18 h
        obtain ⟨a21', e11, h⟩ := h
        intro a21 e12
        have x9 : a21' = a21 := Option.some.inj (e11.symm.trans e12)
        rw [x9] at h
        intro e13
        have h := h.2
        intro e14
        have h := h.2
        refine ⟨?_, ?_⟩
        · have h := h.1
          intro e15
          have h := h e15
          exact jaX11_lawInForce_50 (k4 := wX11_lawInForce_4 Q n) (k4' := vX11_lawInForce_4 Q' m) (fun _ _ _ _ h => ih m _ _ _ _ h) hQ _ _ _ _ _ _ h
        · have h := h.2
          intro e16
          have h := h e16
          exact jaX11_lawInForce_50 (k4 := wX11_lawInForce_4 Q n) (k4' := vX11_lawInForce_4 Q' m) (fun _ _ _ _ h => ih m _ _ _ _ h) hQ _ _ _ _ _ _ h
set_option maxRecDepth 100000 in
set_option maxHeartbeats 4000000 in
theorem jfX11_lawInForce_4 {I : kx_S → Prop} (W : fw_ I []) {Q : Option Nat → kx_S → Prop} (hQ : ∀ y0 y1, I y1 → Q y0 y1) : ∀ (n : Nat) (l0 : Nat) (l1 : (Option Nat)) (l2 : Int32) (σ : kx_S), I σ → vX11_lawInForce_4 Q n l0 l1 l2 σ := by
  intro n
  induction n with
  | zero => intro l0 l1 l2 σ i; exact trivial
  | succ n ih =>
    intro l0 l1 l2 σ i
    unfold vX11_lawInForce_4
    intro e1
    intro a9 e2
    intro e3
    refine jfJx4a65c_size_8abf5 (I := I) (fw_sub W (by decide)) ?_ _ _ i
    intro r12 σ11 iσ11
    refine ⟨?_, ?_⟩
    · intro e4
      exact hQ _ _ iσ11
    · intro e5
      intro e6
      intro a16 e7
      intro e8
      refine jfJx4a65c_get_915e3 (I := I) (fw_sub W (by decide)) ?_ _ _ _ iσ11
      intro q19 σ18 iσ18
      intro a21 e9
      intro e10
      intro e11
      refine ⟨?_, ?_⟩
      · intro e12
        exact jfX11_lawInForce_50 (I := I) (fw_sub W (by decide)) (k4 := vX11_lawInForce_4 Q n) (fun _ _ _ _ i => ih _ _ _ _ i) hQ _ _ _ _ _ _ iσ18
      · intro e13
        exact jfX11_lawInForce_50 (I := I) (fw_sub W (by decide)) (k4 := vX11_lawInForce_4 Q n) (fun _ _ _ _ i => ih _ _ _ _ i) hQ _ _ _ _ _ _ iσ18
def vX11_lawInForce (l0 : Nat) (σ : kx_S) (Q : Option Nat → kx_S → Prop) : Prop := ∀ j, vX11_lawInForce_4 Q j l0 none 0 σ
set_option maxRecDepth 100000 in
set_option maxHeartbeats 4000000 in
theorem jcX11_lawInForce {Q Q' Q'' : Option Nat → kx_S → Prop} (hQ : ∀ y0 y1, Q y0 y1 → Q' y0 y1 → Q'' y0 y1) : ∀ (l0 : Nat) (σ : kx_S), wX11_lawInForce l0 σ Q → vX11_lawInForce l0 σ Q' → wX11_lawInForce l0 σ Q'' := by
  intro l0 σ h v
  unfold wX11_lawInForce at h
  unfold vX11_lawInForce at v
  unfold wX11_lawInForce
  obtain ⟨j, h⟩ := h
  refine ⟨j, ?_⟩
  have v := v j
  exact jcX11_lawInForce_4 hQ _ _ _ _ _ h v
set_option maxRecDepth 100000 in
set_option maxHeartbeats 4000000 in
theorem jaX11_lawInForce {Q Q' : Option Nat → kx_S → Prop} (hQ : ∀ y0 y1, Q y0 y1 → Q' y0 y1) : ∀ (l0 : Nat) (σ : kx_S), wX11_lawInForce l0 σ Q → vX11_lawInForce l0 σ Q' := by
  intro l0 σ h
  unfold wX11_lawInForce at h
  unfold vX11_lawInForce
  obtain ⟨j, h⟩ := h
  intro j9
  exact jaX11_lawInForce_4 hQ _ j9 _ _ _ _ h
set_option maxRecDepth 100000 in
set_option maxHeartbeats 4000000 in
theorem jfX11_lawInForce {I : kx_S → Prop} (W : fw_ I []) {Q : Option Nat → kx_S → Prop} (hQ : ∀ y0 y1, I y1 → Q y0 y1) : ∀ (l0 : Nat) (σ : kx_S), I σ → vX11_lawInForce l0 σ Q := by
  intro l0 σ i
  unfold vX11_lawInForce
  intro j
  exact jfX11_lawInForce_4 (I := I) (fw_sub W (by decide)) hQ _ _ _ _ _ i
def vX11_cut (l0 : Nat) (l1 : Int32) (l2 : Int32) (l3 : Int32) (σ : kx_S) (Q : Int32 → kx_S → Prop) : Prop := xt σ l0 = 13 → ∀ a2, xr σ 209 l0 = some a2 → xt σ a2 = 1 → vJx4a65c_size_8abf5 a2 σ (fun r5 σ4 => ((400 ≤ r5 → Q (-1) σ4) ∧ (¬ (400 ≤ r5) → vX11_isWithin l1 0 15 σ4 (fun r9 σ8 => ((¬ r9 = 0 → vX11_isWithin l2 1 9 σ8 (fun r12 σ11 => ((r12 = 0 → Q (-1) σ11) ∧ (¬ (r12 = 0) → vX11_isWithin l3 0 1000000 σ11 (fun r15 σ14 => ((¬ r15 = 0 → xc σ14 < kx_N → ∀ p18, xt σ14 p18 = 0 → p18 ≠ xz σ14 → ∀ σ21, σ21 = xnew σ14 p18 8 → xt σ21 l0 = 13 → ∀ a24, xr σ21 209 l0 = some a24 → xt σ21 a24 = 1 → vJx4a65c_size_8abf5 a24 σ21 (fun r27 σ26 => vX6_init p18 r27 l1 l2 l3 σ26 (fun σ29 => xt σ29 l0 = 13 → ∀ a31, xr σ29 209 l0 = some a31 → xt σ29 a31 = 1 → vJx4a65c_add_9ea2d a31 p18 σ29 (fun r34 σ33 => xt σ33 p18 = 8 → Q (xi σ33 128 p18) σ33)))) ∧ (r15 = 0 → Q (-1) σ14))))))) ∧ (r9 = 0 → Q (-1) σ8))))))
set_option maxRecDepth 100000 in
set_option maxHeartbeats 4000000 in
theorem jcX11_cut {Q Q' Q'' : Int32 → kx_S → Prop} (hQ : ∀ y0 y1, Q y0 y1 → Q' y0 y1 → Q'' y0 y1) : ∀ (l0 : Nat) (l1 : Int32) (l2 : Int32) (l3 : Int32) (σ : kx_S), wX11_cut l0 l1 l2 l3 σ Q → vX11_cut l0 l1 l2 l3 σ Q' → wX11_cut l0 l1 l2 l3 σ Q'' := by
  intro l0 l1 l2 l3 σ h v
  unfold wX11_cut at h
  unfold vX11_cut at v
  unfold wX11_cut
  refine ⟨h.1, ?_⟩
  have v := v h.1
  have h := h.2
  obtain ⟨a2, e2, h⟩ := h
  refine ⟨a2, e2, ?_⟩
  have v := v a2 e2
  refine ⟨h.1, ?_⟩
  have v := v h.1
  have h := h.2
  refine jcJx4a65c_size_8abf5 ?_ _ _ h v
  intro r5 σ4 h v
  refine ⟨?_, ?_⟩
  · have h := h.1
    have v := v.1
    intro e4
    have h := h e4
    have v := v e4
    exact hQ _ _ h v
  · have h := h.2
    have v := v.2
    intro e5
    have h := h e5
    have v := v e5
    refine jcX11_isWithin ?_ _ _ _ _ h v
    intro r9 σ8 h v
    refine ⟨?_, ?_⟩
    · have h := h.1
      have v := v.1
      intro e6
      have h := h e6
      have v := v e6
      refine jcX11_isWithin ?_ _ _ _ _ h v
      intro r12 σ11 h v
      refine ⟨?_, ?_⟩
      · have h := h.1
        have v := v.1
        intro e7
        have h := h e7
        have v := v e7
        exact hQ _ _ h v
      · have h := h.2
        have v := v.2
        intro e8
        have h := h e8
        have v := v e8
        refine jcX11_isWithin ?_ _ _ _ _ h v
        intro r15 σ14 h v
        refine ⟨?_, ?_⟩
        · have h := h.1
          have v := v.1
          intro e9
          have h := h e9
          have v := v e9
          refine ⟨h.1, ?_⟩
          have v := v h.1
          have h := h.2
          intro p18 e11 e12
          have h := h p18 e11 e12
          have v := v p18 e11 e12
          intro σ21 e13
          have h := h σ21 e13
          have v := v σ21 e13
          refine ⟨h.1, ?_⟩
          have v := v h.1
          have h := h.2
          obtain ⟨a24, e15, h⟩ := h
          refine ⟨a24, e15, ?_⟩
          have v := v a24 e15
          refine ⟨h.1, ?_⟩
          have v := v h.1
          have h := h.2
          refine jcJx4a65c_size_8abf5 ?_ _ _ h v
          intro r27 σ26 h v
          refine jcX6_init ?_ _ _ _ _ _ _ h v
          intro σ29 h v
          refine ⟨h.1, ?_⟩
          have v := v h.1
          have h := h.2
          obtain ⟨a31, e18, h⟩ := h
          refine ⟨a31, e18, ?_⟩
          have v := v a31 e18
          refine ⟨h.1, ?_⟩
          have v := v h.1
          have h := h.2
          refine jcJx4a65c_add_9ea2d ?_ _ _ _ h v
          intro r34 σ33 h v
          refine ⟨h.1, ?_⟩
          have v := v h.1
          have h := h.2
          exact hQ _ _ h v
        · have h := h.2
          have v := v.2
          intro e21
          have h := h e21
          have v := v e21
          exact hQ _ _ h v
    · have h := h.2
      have v := v.2
      intro e22
      have h := h e22
      have v := v e22
      exact hQ _ _ h v
set_option maxRecDepth 100000 in
set_option maxHeartbeats 4000000 in
theorem jaX11_cut {Q Q' : Int32 → kx_S → Prop} (hQ : ∀ y0 y1, Q y0 y1 → Q' y0 y1) : ∀ (l0 : Nat) (l1 : Int32) (l2 : Int32) (l3 : Int32) (σ : kx_S), wX11_cut l0 l1 l2 l3 σ Q → vX11_cut l0 l1 l2 l3 σ Q' := by
  intro l0 l1 l2 l3 σ h
  unfold wX11_cut at h
  unfold vX11_cut
  intro e1
  have h := h.2
  obtain ⟨a2', e2, h⟩ := h
  intro a2 e3
  have x9 : a2' = a2 := Option.some.inj (e2.symm.trans e3)
  rw [x9] at h
  intro e4
  have h := h.2
  refine jaJx4a65c_size_8abf5 ?_ _ _ h
  intro r5 σ4 h
  refine ⟨?_, ?_⟩
  · have h := h.1
    intro e5
    have h := h e5
    exact hQ _ _ h
  · have h := h.2
    intro e6
    have h := h e6
    refine jaX11_isWithin ?_ _ _ _ _ h
    intro r9 σ8 h
    refine ⟨?_, ?_⟩
    · have h := h.1
      intro e7
      have h := h e7
      refine jaX11_isWithin ?_ _ _ _ _ h
      intro r12 σ11 h
      refine ⟨?_, ?_⟩
      · have h := h.1
        intro e8
        have h := h e8
        exact hQ _ _ h
      · have h := h.2
        intro e9
        have h := h e9
        refine jaX11_isWithin ?_ _ _ _ _ h
        intro r15 σ14 h
        refine ⟨?_, ?_⟩
        · have h := h.1
          intro e10
          have h := h e10
          intro e11
          have h := h.2
          intro p18 e12 e13
          have h := h p18 e12 e13
          intro σ21 e14
          have h := h σ21 e14
          intro e15
          have h := h.2
          obtain ⟨a24', e16, h⟩ := h
          intro a24 e17
          have x9 : a24' = a24 := Option.some.inj (e16.symm.trans e17)
          rw [x9] at h
          intro e18
          have h := h.2
          refine jaJx4a65c_size_8abf5 ?_ _ _ h
          intro r27 σ26 h
          refine jaX6_init ?_ _ _ _ _ _ _ h
          intro σ29 h
          intro e19
          have h := h.2
          obtain ⟨a31', e20, h⟩ := h
          intro a31 e21
          have x9 : a31' = a31 := Option.some.inj (e20.symm.trans e21)
          rw [x9] at h
          intro e22
          have h := h.2
          refine jaJx4a65c_add_9ea2d ?_ _ _ _ h
          intro r34 σ33 h
          intro e23
          have h := h.2
          exact hQ _ _ h
        · have h := h.2
          intro e24
          have h := h e24
          exact hQ _ _ h
    · have h := h.2
      intro e25
      have h := h e25
      exact hQ _ _ h
set_option maxRecDepth 100000 in
set_option maxHeartbeats 4000000 in
theorem jfX11_cut {I : kx_S → Prop} (W : fw_ I [16, 17, 18, 128, 129, 130, 131, 132, 133, 134, 136, 1003, 1108, 1222]) {Q : Int32 → kx_S → Prop} (hQ : ∀ y0 y1, I y1 → Q y0 y1) : ∀ (l0 : Nat) (l1 : Int32) (l2 : Int32) (l3 : Int32) (σ : kx_S), I σ → vX11_cut l0 l1 l2 l3 σ Q := by
  intro l0 l1 l2 l3 σ i
  unfold vX11_cut
  intro e1
  intro a2 e2
  intro e3
  refine jfJx4a65c_size_8abf5 (I := I) (fw_sub W (by decide)) ?_ _ _ i
  intro r5 σ4 iσ4
  refine ⟨?_, ?_⟩
  · intro e4
    exact hQ _ _ iσ4
  · intro e5
    refine jfX11_isWithin (I := I) (fw_sub W (by decide)) ?_ _ _ _ _ iσ4
    intro r9 σ8 iσ8
    refine ⟨?_, ?_⟩
    · intro e6
      refine jfX11_isWithin (I := I) (fw_sub W (by decide)) ?_ _ _ _ _ iσ8
      intro r12 σ11 iσ11
      refine ⟨?_, ?_⟩
      · intro e7
        exact hQ _ _ iσ11
      · intro e8
        refine jfX11_isWithin (I := I) (fw_sub W (by decide)) ?_ _ _ _ _ iσ11
        intro r15 σ14 iσ14
        refine ⟨?_, ?_⟩
        · intro e9
          intro e10
          intro p18 e11 e12
          intro σ21 e13
          have iσ21 : I σ21 := by rw [e13]; exact (W _ iσ14).2.2.2.2.2.2.1 8 (by decide) _ e11
          intro e14
          intro a24 e15
          intro e16
          refine jfJx4a65c_size_8abf5 (I := I) (fw_sub W (by decide)) ?_ _ _ iσ21
          intro r27 σ26 iσ26
          refine jfX6_init (I := I) (fw_sub W (by decide)) ?_ _ _ _ _ _ _ iσ26
          intro σ29 iσ29
          intro e17
          intro a31 e18
          intro e19
          refine jfJx4a65c_add_9ea2d (I := I) (fw_sub W (by decide)) ?_ _ _ _ iσ29
          intro r34 σ33 iσ33
          intro e20
          exact hQ _ _ iσ33
        · intro e21
          exact hQ _ _ iσ14
    · intro e22
      exact hQ _ _ iσ8
def vX11_let (l0 : Nat) (l1 : Int32) (l2 : Int32) (l3 : Int32) (σ : kx_S) (Q : Int32 → kx_S → Prop) (QX : String → kx_S → Prop) : Prop := xt σ l0 = 13 → vX11_logAt l0 l1 σ (fun b2 σ1 => xt σ1 l0 = 13 → vX11_reachAt l0 l2 σ1 (fun b5 σ4 => vX11_checkCell b5 l3 σ4 (fun σ7 => xt σ7 b2 = 8 → (((xi σ7 132 b2) = 0 → xt σ7 l0 = 13 → ∀ a11, xr σ7 215 l0 = some a11 → vX11_lawInForce l0 σ7 (fun q14 σ13 => xt σ13 l0 = 13 → xt σ13 a11 = 5 → vX3_weigh a11 q14 b2 l2 (xi σ13 217 l0) σ13 (fun σ16 => xt σ16 l0 = 13 → ∀ a19, xr σ16 215 l0 = some a19 → xt σ16 a19 = 5 → (((xi σ16 83 a19) = 0 → xt σ16 b5 = 10 → vX8_takes b5 b2 l3 σ16 (fun r24 σ23 => ((r24 = 0 → Q 3 σ23) ∧ (¬ (r24 = 0) → Q 0 σ23)))) ∧ (¬ ((xi σ16 83 a19) = 0) → Q 2 σ16))))) ∧ (¬ ((xi σ7 132 b2) = 0) → Q 1 σ7))) QX) QX) QX
set_option maxRecDepth 100000 in
set_option maxHeartbeats 4000000 in
theorem jcX11_let {Q Q' Q'' : Int32 → kx_S → Prop} (hQ : ∀ y0 y1, Q y0 y1 → Q' y0 y1 → Q'' y0 y1) {QX QX' QX'' : String → kx_S → Prop} (hX : ∀ y0 y1, QX y0 y1 → QX' y0 y1 → QX'' y0 y1) : ∀ (l0 : Nat) (l1 : Int32) (l2 : Int32) (l3 : Int32) (σ : kx_S), wX11_let l0 l1 l2 l3 σ Q QX → vX11_let l0 l1 l2 l3 σ Q' QX' → wX11_let l0 l1 l2 l3 σ Q'' QX'' := by
  intro l0 l1 l2 l3 σ h v
  unfold wX11_let at h
  unfold vX11_let at v
  unfold wX11_let
  refine ⟨h.1, ?_⟩
  have v := v h.1
  have h := h.2
  refine jcX11_logAt ?_ hX _ _ _ h v
  intro b2 σ1 h v
  refine ⟨h.1, ?_⟩
  have v := v h.1
  have h := h.2
  refine jcX11_reachAt ?_ hX _ _ _ h v
  intro b5 σ4 h v
  refine jcX11_checkCell ?_ hX _ _ _ h v
  intro σ7 h v
  refine ⟨h.1, ?_⟩
  have v := v h.1
  have h := h.2
  refine ⟨?_, ?_⟩
  · have h := h.1
    have v := v.1
    intro e4
    have h := h e4
    have v := v e4
    refine ⟨h.1, ?_⟩
    have v := v h.1
    have h := h.2
    obtain ⟨a11, e6, h⟩ := h
    refine ⟨a11, e6, ?_⟩
    have v := v a11 e6
    refine jcX11_lawInForce ?_ _ _ h v
    intro q14 σ13 h v
    refine ⟨h.1, ?_⟩
    have v := v h.1
    have h := h.2
    refine ⟨h.1, ?_⟩
    have v := v h.1
    have h := h.2
    refine jcX3_weigh ?_ _ _ _ _ _ _ h v
    intro σ16 h v
    refine ⟨h.1, ?_⟩
    have v := v h.1
    have h := h.2
    obtain ⟨a19, e10, h⟩ := h
    refine ⟨a19, e10, ?_⟩
    have v := v a19 e10
    refine ⟨h.1, ?_⟩
    have v := v h.1
    have h := h.2
    refine ⟨?_, ?_⟩
    · have h := h.1
      have v := v.1
      intro e12
      have h := h e12
      have v := v e12
      refine ⟨h.1, ?_⟩
      have v := v h.1
      have h := h.2
      refine jcX8_takes ?_ _ _ _ _ h v
      intro r24 σ23 h v
      refine ⟨?_, ?_⟩
      · have h := h.1
        have v := v.1
        intro e14
        have h := h e14
        have v := v e14
        exact hQ _ _ h v
      · have h := h.2
        have v := v.2
        intro e15
        have h := h e15
        have v := v e15
        exact hQ _ _ h v
    · have h := h.2
      have v := v.2
      intro e16
      have h := h e16
      have v := v e16
      exact hQ _ _ h v
  · have h := h.2
    have v := v.2
    intro e17
    have h := h e17
    have v := v e17
    exact hQ _ _ h v
set_option maxRecDepth 100000 in
set_option maxHeartbeats 4000000 in
theorem jaX11_let {Q Q' : Int32 → kx_S → Prop} (hQ : ∀ y0 y1, Q y0 y1 → Q' y0 y1) {QX QX' : String → kx_S → Prop} (hX : ∀ y0 y1, QX y0 y1 → QX' y0 y1) : ∀ (l0 : Nat) (l1 : Int32) (l2 : Int32) (l3 : Int32) (σ : kx_S), wX11_let l0 l1 l2 l3 σ Q QX → vX11_let l0 l1 l2 l3 σ Q' QX' := by
  intro l0 l1 l2 l3 σ h
  unfold wX11_let at h
  unfold vX11_let
  intro e1
  have h := h.2
  refine jaX11_logAt ?_ hX _ _ _ h
  intro b2 σ1 h
  intro e2
  have h := h.2
  refine jaX11_reachAt ?_ hX _ _ _ h
  intro b5 σ4 h
  refine jaX11_checkCell ?_ hX _ _ _ h
  intro σ7 h
  intro e3
  have h := h.2
  refine ⟨?_, ?_⟩
  · have h := h.1
    intro e4
    have h := h e4
    intro e5
    have h := h.2
    obtain ⟨a11', e6, h⟩ := h
    intro a11 e7
    have x9 : a11' = a11 := Option.some.inj (e6.symm.trans e7)
    rw [x9] at h
    refine jaX11_lawInForce ?_ _ _ h
    intro q14 σ13 h
    intro e8
    have h := h.2
    intro e9
    have h := h.2
    refine jaX3_weigh ?_ _ _ _ _ _ _ h
    intro σ16 h
    intro e10
    have h := h.2
    obtain ⟨a19', e11, h⟩ := h
    intro a19 e12
    have x9 : a19' = a19 := Option.some.inj (e11.symm.trans e12)
    rw [x9] at h
    intro e13
    have h := h.2
    refine ⟨?_, ?_⟩
    · have h := h.1
      intro e14
      have h := h e14
      intro e15
      have h := h.2
      refine jaX8_takes ?_ _ _ _ _ h
      intro r24 σ23 h
      refine ⟨?_, ?_⟩
      · have h := h.1
        intro e16
        have h := h e16
        exact hQ _ _ h
      · have h := h.2
        intro e17
        have h := h e17
        exact hQ _ _ h
    · have h := h.2
      intro e18
      have h := h e18
      exact hQ _ _ h
  · have h := h.2
    intro e19
    have h := h e19
    exact hQ _ _ h
set_option maxRecDepth 100000 in
set_option maxHeartbeats 4000000 in
theorem jfX11_let {I : kx_S → Prop} (W : fw_ I [16, 17, 18, 82, 83, 84, 132, 133, 134, 1001, 1003, 1005, 1222]) {Q : Int32 → kx_S → Prop} (hQ : ∀ y0 y1, I y1 → Q y0 y1) {QX : String → kx_S → Prop} (hX : ∀ y0 y1, I y1 → QX y0 y1) : ∀ (l0 : Nat) (l1 : Int32) (l2 : Int32) (l3 : Int32) (σ : kx_S), I σ → vX11_let l0 l1 l2 l3 σ Q QX := by
  intro l0 l1 l2 l3 σ i
  unfold vX11_let
  intro e1
  refine jfX11_logAt (I := I) (fw_sub W (by decide)) ?_ hX _ _ _ i
  intro b2 σ1 iσ1
  intro e2
  refine jfX11_reachAt (I := I) (fw_sub W (by decide)) ?_ hX _ _ _ iσ1
  intro b5 σ4 iσ4
  refine jfX11_checkCell (I := I) (fw_sub W (by decide)) ?_ hX _ _ _ iσ4
  intro σ7 iσ7
  intro e3
  refine ⟨?_, ?_⟩
  · intro e4
    intro e5
    intro a11 e6
    refine jfX11_lawInForce (I := I) (fw_sub W (by decide)) ?_ _ _ iσ7
    intro q14 σ13 iσ13
    intro e7
    intro e8
    refine jfX3_weigh (I := I) (fw_sub W (by decide)) ?_ _ _ _ _ _ _ iσ13
    intro σ16 iσ16
    intro e9
    intro a19 e10
    intro e11
    refine ⟨?_, ?_⟩
    · intro e12
      intro e13
      refine jfX8_takes (I := I) (fw_sub W (by decide)) ?_ _ _ _ _ iσ16
      intro r24 σ23 iσ23
      refine ⟨?_, ?_⟩
      · intro e14
        exact hQ _ _ iσ23
      · intro e15
        exact hQ _ _ iσ23
    · intro e16
      exact hQ _ _ iσ16
  · intro e17
    exact hQ _ _ iσ7
def vX11_order (l0 : Nat) (l1 : Int32) (l2 : Int32) (l3 : Int32) (l4 : Int32) (σ : kx_S) (Q : Int32 → kx_S → Prop) (QX : String → kx_S → Prop) : Prop := xt σ l0 = 13 → vX11_reachAt l0 l1 σ (fun b2 σ1 => xt σ1 b2 = 10 → ((xr σ1 172 b2 = none → Q (-1) σ1) ∧ (∀ a6, xr σ1 172 b2 = some a6 → xt σ1 l0 = 13 → ∀ a8, xr σ1 212 l0 = some a8 → xt σ1 a8 = 1 → vJx4a65c_size_8abf5 a8 σ1 (fun r11 σ10 => ((r11 < 60 → vX11_isWithin l2 0 15 σ10 (fun r15 σ14 => ((r15 = 0 → Q (-1) σ14) ∧ (¬ (r15 = 0) → vX11_isWithin l3 1 9 σ14 (fun r18 σ17 => ((r18 = 0 → Q (-1) σ17) ∧ (¬ (r18 = 0) → vX11_isWithin l4 1 100 σ17 (fun r21 σ20 => ((¬ r21 = 0 → xc σ20 < kx_N → ∀ p24, xt σ20 p24 = 0 → p24 ≠ xz σ20 → ∀ σ27, σ27 = xnew σ20 p24 9 → vX7_init p24 l2 l3 l4 σ27 (fun σ29 => xt σ29 l0 = 13 → ∀ a31, xr σ29 212 l0 = some a31 → xt σ29 a31 = 1 → vJx4a65c_add_9ea2d a31 p24 σ29 (fun r34 σ33 => xt σ33 b2 = 10 → ∀ a37, xr σ33 172 b2 = some a37 → xt σ33 a37 = 2 → ∀ a40, xr σ33 33 a37 = some a40 → xt σ33 a40 = 1 → vJx4a65c_add_9ea2d a40 p24 σ33 (fun r43 σ42 => xt σ42 l0 = 13 → ∀ a46, xr σ42 212 l0 = some a46 → xt σ42 a46 = 1 → vJx4a65c_size_8abf5 a46 σ42 (fun r49 σ48 => Q (r49 - 1) σ48))))) ∧ (r21 = 0 → Q (-1) σ20)))))))))) ∧ (¬ (r11 < 60) → Q (-1) σ10)))))) QX
set_option maxRecDepth 100000 in
set_option maxHeartbeats 4000000 in
theorem jcX11_order {Q Q' Q'' : Int32 → kx_S → Prop} (hQ : ∀ y0 y1, Q y0 y1 → Q' y0 y1 → Q'' y0 y1) {QX QX' QX'' : String → kx_S → Prop} (hX : ∀ y0 y1, QX y0 y1 → QX' y0 y1 → QX'' y0 y1) : ∀ (l0 : Nat) (l1 : Int32) (l2 : Int32) (l3 : Int32) (l4 : Int32) (σ : kx_S), wX11_order l0 l1 l2 l3 l4 σ Q QX → vX11_order l0 l1 l2 l3 l4 σ Q' QX' → wX11_order l0 l1 l2 l3 l4 σ Q'' QX'' := by
  intro l0 l1 l2 l3 l4 σ h v
  unfold wX11_order at h
  unfold vX11_order at v
  unfold wX11_order
  refine ⟨h.1, ?_⟩
  have v := v h.1
  have h := h.2
  refine jcX11_reachAt ?_ hX _ _ _ h v
  intro b2 σ1 h v
  refine ⟨h.1, ?_⟩
  have v := v h.1
  have h := h.2
  refine ⟨?_, ?_⟩
  · have h := h.1
    have v := v.1
    intro e3
    have h := h e3
    have v := v e3
    exact hQ _ _ h v
  · have h := h.2
    have v := v.2
    intro a6 e4
    have h := h a6 e4
    have v := v a6 e4
    refine ⟨h.1, ?_⟩
    have v := v h.1
    have h := h.2
    obtain ⟨a8, e6, h⟩ := h
    refine ⟨a8, e6, ?_⟩
    have v := v a8 e6
    refine ⟨h.1, ?_⟩
    have v := v h.1
    have h := h.2
    refine jcJx4a65c_size_8abf5 ?_ _ _ h v
    intro r11 σ10 h v
    refine ⟨?_, ?_⟩
    · have h := h.1
      have v := v.1
      intro e8
      have h := h e8
      have v := v e8
      refine jcX11_isWithin ?_ _ _ _ _ h v
      intro r15 σ14 h v
      refine ⟨?_, ?_⟩
      · have h := h.1
        have v := v.1
        intro e9
        have h := h e9
        have v := v e9
        exact hQ _ _ h v
      · have h := h.2
        have v := v.2
        intro e10
        have h := h e10
        have v := v e10
        refine jcX11_isWithin ?_ _ _ _ _ h v
        intro r18 σ17 h v
        refine ⟨?_, ?_⟩
        · have h := h.1
          have v := v.1
          intro e11
          have h := h e11
          have v := v e11
          exact hQ _ _ h v
        · have h := h.2
          have v := v.2
          intro e12
          have h := h e12
          have v := v e12
          refine jcX11_isWithin ?_ _ _ _ _ h v
          intro r21 σ20 h v
          refine ⟨?_, ?_⟩
          · have h := h.1
            have v := v.1
            intro e13
            have h := h e13
            have v := v e13
            refine ⟨h.1, ?_⟩
            have v := v h.1
            have h := h.2
            intro p24 e15 e16
            have h := h p24 e15 e16
            have v := v p24 e15 e16
            intro σ27 e17
            have h := h σ27 e17
            have v := v σ27 e17
            refine jcX7_init ?_ _ _ _ _ _ h v
            intro σ29 h v
            refine ⟨h.1, ?_⟩
            have v := v h.1
            have h := h.2
            obtain ⟨a31, e19, h⟩ := h
            refine ⟨a31, e19, ?_⟩
            have v := v a31 e19
            refine ⟨h.1, ?_⟩
            have v := v h.1
            have h := h.2
            refine jcJx4a65c_add_9ea2d ?_ _ _ _ h v
            intro r34 σ33 h v
            refine ⟨h.1, ?_⟩
            have v := v h.1
            have h := h.2
            obtain ⟨a37, e22, h⟩ := h
            refine ⟨a37, e22, ?_⟩
            have v := v a37 e22
            refine ⟨h.1, ?_⟩
            have v := v h.1
            have h := h.2
            obtain ⟨a40, e24, h⟩ := h
            refine ⟨a40, e24, ?_⟩
            have v := v a40 e24
            refine ⟨h.1, ?_⟩
            have v := v h.1
            have h := h.2
            refine jcJx4a65c_add_9ea2d ?_ _ _ _ h v
            intro r43 σ42 h v
            refine ⟨h.1, ?_⟩
            have v := v h.1
            have h := h.2
            obtain ⟨a46, e27, h⟩ := h
            refine ⟨a46, e27, ?_⟩
            have v := v a46 e27
            refine ⟨h.1, ?_⟩
            have v := v h.1
            have h := h.2
            refine jcJx4a65c_size_8abf5 ?_ _ _ h v
            intro r49 σ48 h v
            exact hQ _ _ h v
          · have h := h.2
            have v := v.2
            intro e29
            have h := h e29
            have v := v e29
            exact hQ _ _ h v
    · have h := h.2
      have v := v.2
      intro e30
      have h := h e30
      have v := v e30
      exact hQ _ _ h v
set_option maxRecDepth 100000 in
set_option maxHeartbeats 4000000 in
theorem jaX11_order {Q Q' : Int32 → kx_S → Prop} (hQ : ∀ y0 y1, Q y0 y1 → Q' y0 y1) {QX QX' : String → kx_S → Prop} (hX : ∀ y0 y1, QX y0 y1 → QX' y0 y1) : ∀ (l0 : Nat) (l1 : Int32) (l2 : Int32) (l3 : Int32) (l4 : Int32) (σ : kx_S), wX11_order l0 l1 l2 l3 l4 σ Q QX → vX11_order l0 l1 l2 l3 l4 σ Q' QX' := by
  intro l0 l1 l2 l3 l4 σ h
  unfold wX11_order at h
  unfold vX11_order
  intro e1
  have h := h.2
  refine jaX11_reachAt ?_ hX _ _ _ h
  intro b2 σ1 h
  intro e2
  have h := h.2
  refine ⟨?_, ?_⟩
  · have h := h.1
    intro e3
    have h := h e3
    exact hQ _ _ h
  · have h := h.2
    intro a6 e4
    have h := h a6 e4
    intro e5
    have h := h.2
    obtain ⟨a8', e6, h⟩ := h
    intro a8 e7
    have x9 : a8' = a8 := Option.some.inj (e6.symm.trans e7)
    rw [x9] at h
    intro e8
    have h := h.2
    refine jaJx4a65c_size_8abf5 ?_ _ _ h
    intro r11 σ10 h
    refine ⟨?_, ?_⟩
    · have h := h.1
      intro e9
      have h := h e9
      refine jaX11_isWithin ?_ _ _ _ _ h
      intro r15 σ14 h
      refine ⟨?_, ?_⟩
      · have h := h.1
        intro e10
        have h := h e10
        exact hQ _ _ h
      · have h := h.2
        intro e11
        have h := h e11
        refine jaX11_isWithin ?_ _ _ _ _ h
        intro r18 σ17 h
        refine ⟨?_, ?_⟩
        · have h := h.1
          intro e12
          have h := h e12
          exact hQ _ _ h
        · have h := h.2
          intro e13
          have h := h e13
          refine jaX11_isWithin ?_ _ _ _ _ h
          intro r21 σ20 h
          refine ⟨?_, ?_⟩
          · have h := h.1
            intro e14
            have h := h e14
            intro e15
            have h := h.2
            intro p24 e16 e17
            have h := h p24 e16 e17
            intro σ27 e18
            have h := h σ27 e18
            refine jaX7_init ?_ _ _ _ _ _ h
            intro σ29 h
            intro e19
            have h := h.2
            obtain ⟨a31', e20, h⟩ := h
            intro a31 e21
            have x9 : a31' = a31 := Option.some.inj (e20.symm.trans e21)
            rw [x9] at h
            intro e22
            have h := h.2
            refine jaJx4a65c_add_9ea2d ?_ _ _ _ h
            intro r34 σ33 h
            intro e23
            have h := h.2
            obtain ⟨a37', e24, h⟩ := h
            intro a37 e25
            have x9 : a37' = a37 := Option.some.inj (e24.symm.trans e25)
            rw [x9] at h
            intro e26
            have h := h.2
            obtain ⟨a40', e27, h⟩ := h
            intro a40 e28
            have x9 : a40' = a40 := Option.some.inj (e27.symm.trans e28)
            rw [x9] at h
            intro e29
            have h := h.2
            refine jaJx4a65c_add_9ea2d ?_ _ _ _ h
            intro r43 σ42 h
            intro e30
            have h := h.2
            obtain ⟨a46', e31, h⟩ := h
            intro a46 e32
            have x9 : a46' = a46 := Option.some.inj (e31.symm.trans e32)
            rw [x9] at h
            intro e33
            have h := h.2
            refine jaJx4a65c_size_8abf5 ?_ _ _ h
            intro r49 σ48 h
            exact hQ _ _ h
          · have h := h.2
            intro e34
            have h := h e34
            exact hQ _ _ h
    · have h := h.2
      intro e35
      have h := h e35
      exact hQ _ _ h
set_option maxRecDepth 100000 in
set_option maxHeartbeats 4000000 in
theorem jfX11_order {I : kx_S → Prop} (W : fw_ I [16, 17, 18, 144, 145, 146, 1003, 1005, 1109, 1222]) {Q : Int32 → kx_S → Prop} (hQ : ∀ y0 y1, I y1 → Q y0 y1) {QX : String → kx_S → Prop} (hX : ∀ y0 y1, I y1 → QX y0 y1) : ∀ (l0 : Nat) (l1 : Int32) (l2 : Int32) (l3 : Int32) (l4 : Int32) (σ : kx_S), I σ → vX11_order l0 l1 l2 l3 l4 σ Q QX := by
  intro l0 l1 l2 l3 l4 σ i
  unfold vX11_order
  intro e1
  refine jfX11_reachAt (I := I) (fw_sub W (by decide)) ?_ hX _ _ _ i
  intro b2 σ1 iσ1
  intro e2
  refine ⟨?_, ?_⟩
  · intro e3
    exact hQ _ _ iσ1
  · intro a6 e4
    intro e5
    intro a8 e6
    intro e7
    refine jfJx4a65c_size_8abf5 (I := I) (fw_sub W (by decide)) ?_ _ _ iσ1
    intro r11 σ10 iσ10
    refine ⟨?_, ?_⟩
    · intro e8
      refine jfX11_isWithin (I := I) (fw_sub W (by decide)) ?_ _ _ _ _ iσ10
      intro r15 σ14 iσ14
      refine ⟨?_, ?_⟩
      · intro e9
        exact hQ _ _ iσ14
      · intro e10
        refine jfX11_isWithin (I := I) (fw_sub W (by decide)) ?_ _ _ _ _ iσ14
        intro r18 σ17 iσ17
        refine ⟨?_, ?_⟩
        · intro e11
          exact hQ _ _ iσ17
        · intro e12
          refine jfX11_isWithin (I := I) (fw_sub W (by decide)) ?_ _ _ _ _ iσ17
          intro r21 σ20 iσ20
          refine ⟨?_, ?_⟩
          · intro e13
            intro e14
            intro p24 e15 e16
            intro σ27 e17
            have iσ27 : I σ27 := by rw [e17]; exact (W _ iσ20).2.2.2.2.2.2.1 9 (by decide) _ e15
            refine jfX7_init (I := I) (fw_sub W (by decide)) ?_ _ _ _ _ _ iσ27
            intro σ29 iσ29
            intro e18
            intro a31 e19
            intro e20
            refine jfJx4a65c_add_9ea2d (I := I) (fw_sub W (by decide)) ?_ _ _ _ iσ29
            intro r34 σ33 iσ33
            intro e21
            intro a37 e22
            intro e23
            intro a40 e24
            intro e25
            refine jfJx4a65c_add_9ea2d (I := I) (fw_sub W (by decide)) ?_ _ _ _ iσ33
            intro r43 σ42 iσ42
            intro e26
            intro a46 e27
            intro e28
            refine jfJx4a65c_size_8abf5 (I := I) (fw_sub W (by decide)) ?_ _ _ iσ42
            intro r49 σ48 iσ48
            exact hQ _ _ iσ48
          · intro e29
            exact hQ _ _ iσ20
    · intro e30
      exact hQ _ _ iσ10

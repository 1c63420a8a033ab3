def vX8_jamFullCells (l0 : Nat) (σ : kx_S) (Q : kx_S → Prop) : Prop := ∀ j, vX8_jamFullCells_2 Q j l0 0 σ
set_option maxRecDepth 100000 in
set_option maxHeartbeats 4000000 in
theorem jcX8_jamFullCells {Q Q' Q'' : kx_S → Prop} (hQ : ∀ y0, Q y0 → Q' y0 → Q'' y0) : ∀ (l0 : Nat) (σ : kx_S), wX8_jamFullCells l0 σ Q → vX8_jamFullCells l0 σ Q' → wX8_jamFullCells l0 σ Q'' := by
  intro l0 σ h v
  unfold wX8_jamFullCells at h
  unfold vX8_jamFullCells at v
  unfold wX8_jamFullCells
  obtain ⟨j, h⟩ := h
  refine ⟨j, ?_⟩
  have v := v j
  exact jcX8_jamFullCells_2 hQ _ _ _ _ h v
set_option maxRecDepth 100000 in
set_option maxHeartbeats 4000000 in
theorem jaX8_jamFullCells {Q Q' : kx_S → Prop} (hQ : ∀ y0, Q y0 → Q' y0) : ∀ (l0 : Nat) (σ : kx_S), wX8_jamFullCells l0 σ Q → vX8_jamFullCells l0 σ Q' := by
  intro l0 σ h
  unfold wX8_jamFullCells at h
  unfold vX8_jamFullCells
  obtain ⟨j, h⟩ := h
  intro j9
  exact jaX8_jamFullCells_2 hQ _ j9 _ _ _ h
set_option maxRecDepth 100000 in
set_option maxHeartbeats 4000000 in
theorem jfX8_jamFullCells {I : kx_S → Prop} (W : fw_ I [50]) {Q : kx_S → Prop} (hQ : ∀ y0, I y0 → Q y0) : ∀ (l0 : Nat) (σ : kx_S), I σ → vX8_jamFullCells l0 σ Q := by
  intro l0 σ i
  unfold vX8_jamFullCells
  intro j
  exact jfX8_jamFullCells_2 (I := I) (fw_sub W (by decide)) hQ _ _ _ _ i
def vX8_freesLowestJam_37 (Q : Int32 → kx_S → Prop) (l2 : Nat) (σ : kx_S) : Prop := xt σ l2 = 3 → ∀ σ2, σ2 = xsi σ 50 l2 0 → ∀ σ4, σ4 = xsi σ2 51 l2 0 → Q 1 σ4
set_option maxRecDepth 100000 in
set_option maxHeartbeats 4000000 in
theorem jcX8_freesLowestJam_37 {Q Q' Q'' : Int32 → kx_S → Prop} (hQ : ∀ y0 y1, Q y0 y1 → Q' y0 y1 → Q'' y0 y1) : ∀ (l2 : Nat) (σ : kx_S), wX8_freesLowestJam_37 Q l2 σ → vX8_freesLowestJam_37 Q' l2 σ → wX8_freesLowestJam_37 Q'' l2 σ := by
  intro l2 σ h v
  unfold wX8_freesLowestJam_37 at h
  unfold vX8_freesLowestJam_37 at v
  unfold wX8_freesLowestJam_37
  refine ⟨h.1, ?_⟩
  have v := v h.1
  have h := h.2
  intro σ2 e2
  have h := h σ2 e2
  have v := v σ2 e2
  intro σ4 e3
  have h := h σ4 e3
  have v := v σ4 e3
  exact hQ _ _ h v
set_option maxRecDepth 100000 in
set_option maxHeartbeats 4000000 in
theorem jaX8_freesLowestJam_37 {Q Q' : Int32 → kx_S → Prop} (hQ : ∀ y0 y1, Q y0 y1 → Q' y0 y1) : ∀ (l2 : Nat) (σ : kx_S), wX8_freesLowestJam_37 Q l2 σ → vX8_freesLowestJam_37 Q' l2 σ := by
  intro l2 σ h
  unfold wX8_freesLowestJam_37 at h
  unfold vX8_freesLowestJam_37
  intro e1
  have h := h.2
  intro σ2 e2
  have h := h σ2 e2
  intro σ4 e3
  have h := h σ4 e3
  exact hQ _ _ h
set_option maxRecDepth 100000 in
set_option maxHeartbeats 4000000 in
theorem jfX8_freesLowestJam_37 {I : kx_S → Prop} (W : fw_ I [50, 51]) {Q : Int32 → kx_S → Prop} (hQ : ∀ y0 y1, I y1 → Q y0 y1) : ∀ (l2 : Nat) (σ : kx_S), I σ → vX8_freesLowestJam_37 Q l2 σ := by
  intro l2 σ i
  unfold vX8_freesLowestJam_37
  intro e1
  intro σ2 e2
  have iσ2 : I σ2 := by rw [e2]; exact ((W _ i).1 50 (by decide)).1 _ _
  intro σ4 e3
  have iσ4 : I σ4 := by rw [e3]; exact ((W _ iσ2).1 51 (by decide)).1 _ _
  exact hQ _ _ iσ4
def vX8_freesLowestJam_12 (k37 : Nat → kx_S → Prop) (Q : Int32 → kx_S → Prop) : Nat → Nat → Int32 → kx_S → Prop
  | 0, _, _, _ => True
  | n + 1, l0, l1, σ => ((l1 < 0 → Q 0 σ) ∧ (¬ (l1 < 0) → xt σ l0 = 10 → ∀ a8, xr σ 163 l0 = some a8 → xt σ a8 = 1 → vJx4a65c_get_915e3 a8 l1 σ (fun q11 σ10 => ∀ a13, q11 = some a13 → xt σ10 a13 = 3 → (((xi σ10 50 a13) = 0 → ∀ v17 : Int32, v17 = l1 + (-1) → vX8_freesLowestJam_12 k37 Q n l0 v17 σ10) ∧ (¬ ((xi σ10 50 a13) = 0) → k37 a13 σ10)))))
set_option maxRecDepth 100000 in
set_option maxHeartbeats 4000000 in
theorem jcX8_freesLowestJam_12 {k37 k37' k37'' : Nat → kx_S → Prop} (hk37 : ∀ y0 y1, k37 y0 y1 → k37' y0 y1 → k37'' y0 y1) {Q Q' Q'' : Int32 → kx_S → Prop} (hQ : ∀ y0 y1, Q y0 y1 → Q' y0 y1 → Q'' y0 y1) : ∀ (n : Nat) (l0 : Nat) (l1 : Int32) (σ : kx_S), wX8_freesLowestJam_12 k37 Q n l0 l1 σ → vX8_freesLowestJam_12 k37' Q' n l0 l1 σ → wX8_freesLowestJam_12 k37'' Q'' n l0 l1 σ := by
  intro n
  induction n with
  | zero => intro l0 l1 σ h; exact h.elim
  | succ n ih =>
    intro l0 l1 σ h v
    unfold wX8_freesLowestJam_12 at h
    unfold vX8_freesLowestJam_12 at v
    unfold wX8_freesLowestJam_12
    refine ⟨?_, ?_⟩
    · have h := h.1
      have v := v.1
      intro e1
      have h := h e1
      have v := v e1
      exact hQ _ _ h v
    · have h := h.2
      have v := v.2
      intro e2
      have h := h e2
      have v := v e2
      refine ⟨h.1, ?_⟩
      have v := v h.1
      have h := h.2
      obtain ⟨a8, e4, h⟩ := h
      refine ⟨a8, e4, ?_⟩
      have v := v a8 e4
      refine ⟨h.1, ?_⟩
      have v := v h.1
      have h := h.2
      refine jcJx4a65c_get_915e3 ?_ _ _ _ h v
      intro q11 σ10 h v
      obtain ⟨a13, e6, h⟩ := h
      refine ⟨a13, e6, ?_⟩
      have v := v a13 e6
      refine ⟨h.1, ?_⟩
      have v := v h.1
      have h := h.2
      refine ⟨?_, ?_⟩
      · have h := h.1
        have v := v.1
        intro e8
        have h := h e8
        have v := v e8
        intro v17 e9
        have h := h v17 e9
        have v := v v17 e9
        exact ih _ _ _ h v
      · have h := h.2
        have v := v.2
        intro e10
        have h := h e10
        have v := v e10
        exact hk37 _ _ h v
set_option maxRecDepth 100000 in
set_option maxHeartbeats 4000000 in
theorem jaX8_freesLowestJam_12 {k37 k37' : Nat → kx_S → Prop} (hk37 : ∀ y0 y1, k37 y0 y1 → k37' y0 y1) {Q Q' : Int32 → kx_S → Prop} (hQ : ∀ y0 y1, Q y0 y1 → Q' y0 y1) : ∀ (n m : Nat) (l0 : Nat) (l1 : Int32) (σ : kx_S), wX8_freesLowestJam_12 k37 Q n l0 l1 σ → vX8_freesLowestJam_12 k37' Q' m l0 l1 σ := by
  intro n
  induction n with
  | zero => intro m l0 l1 σ h; exact h.elim
  | succ n ih =>
    intro m l0 l1 σ h
    cases m with
    | zero => exact trivial
    | succ m =>
      unfold wX8_freesLowestJam_12 at h
      unfold vX8_freesLowestJam_12
      refine ⟨?_, ?_⟩
      · have h := h.1
        intro e1
        have h := h e1
        exact hQ _ _ h
      · have h := h.2
        intro e2
        have h := h e2
        intro e3
        have h := h.2
        obtain ⟨a8', e4, h⟩ := h
        intro a8 e5
        have x9 : a8' = a8 := Option.some.inj (e4.symm.trans e5)
        rw [x9] at h
        intro e6
        have h := h.2
        refine jaJx4a65c_get_915e3 ?_ _ _ _ h
        intro q11 σ10 h
        obtain ⟨a13', e7, h⟩ := h
        intro a13 e8
        have x9 : a13' = a13 := Option.some.inj (e7.symm.trans e8)
        rw [x9] at h
        intro e9
        have h := h.2
        refine ⟨?_, ?_⟩
        · have h := h.1
          intro e10
          have h := h e10
          intro v17 e11
          have h := h v17 e11
          exact ih m _ _ _ h
        · have h := h.2
          intro e12
          have h := h e12
          exact hk37 _ _ h
set_option maxRecDepth 100000 in
set_option maxHeartbeats 4000000 in
theorem jfX8_freesLowestJam_12 {I : kx_S → Prop} (W : fw_ I []) {k37 : Nat → kx_S → Prop} (hk37 : ∀ y0 y1, I y1 → k37 y0 y1) {Q : Int32 → kx_S → Prop} (hQ : ∀ y0 y1, I y1 → Q y0 y1) : ∀ (n : Nat) (l0 : Nat) (l1 : Int32) (σ : kx_S), I σ → vX8_freesLowestJam_12 k37 Q n l0 l1 σ := by
  intro n
  induction n with
  | zero => intro l0 l1 σ i; exact trivial
  | succ n ih =>
    intro l0 l1 σ i
    unfold vX8_freesLowestJam_12
    refine ⟨?_, ?_⟩
    · intro e1
      exact hQ _ _ i
    · intro e2
      intro e3
      intro a8 e4
      intro e5
      refine jfJx4a65c_get_915e3 (I := I) (fw_sub W (by decide)) ?_ _ _ _ i
      intro q11 σ10 iσ10
      intro a13 e6
      intro e7
      refine ⟨?_, ?_⟩
      · intro e8
        intro v17 e9
        exact ih _ _ _ iσ10
      · intro e10
        exact hk37 _ _ iσ10
def vX8_freesLowestJam (l0 : Nat) (σ : kx_S) (Q : Int32 → kx_S → Prop) : Prop := xt σ l0 = 10 → ∀ a19, xr σ 163 l0 = some a19 → xt σ a19 = 1 → vJx4a65c_size_8abf5 a19 σ (fun r22 σ21 => ∀ v24, v24 = r22 - 1 → ∀ j, vX8_freesLowestJam_12 (vX8_freesLowestJam_37 Q) Q j l0 v24 σ21)
set_option maxRecDepth 100000 in
set_option maxHeartbeats 4000000 in
theorem jcX8_freesLowestJam {Q Q' Q'' : Int32 → kx_S → Prop} (hQ : ∀ y0 y1, Q y0 y1 → Q' y0 y1 → Q'' y0 y1) : ∀ (l0 : Nat) (σ : kx_S), wX8_freesLowestJam l0 σ Q → vX8_freesLowestJam l0 σ Q' → wX8_freesLowestJam l0 σ Q'' := by
  intro l0 σ h v
  unfold wX8_freesLowestJam at h
  unfold vX8_freesLowestJam at v
  unfold wX8_freesLowestJam
  refine ⟨h.1, ?_⟩
  have v := v h.1
  have h := h.2
  obtain ⟨a19, e2, h⟩ := h
  refine ⟨a19, e2, ?_⟩
  have v := v a19 e2
  refine ⟨h.1, ?_⟩
  have v := v h.1
  have h := h.2
  refine jcJx4a65c_size_8abf5 ?_ _ _ h v
  intro r22 σ21 h v
  intro v24 e4
  have h := h v24 e4
  have v := v v24 e4
  obtain ⟨j, h⟩ := h
  refine ⟨j, ?_⟩
  have v := v j
  exact jcX8_freesLowestJam_12 (k37 := wX8_freesLowestJam_37 Q) (k37' := vX8_freesLowestJam_37 Q') (k37'' := wX8_freesLowestJam_37 Q'') (fun _ _ h v => jcX8_freesLowestJam_37 hQ _ _ h v) hQ _ _ _ _ h v
set_option maxRecDepth 100000 in
set_option maxHeartbeats 4000000 in
theorem jaX8_freesLowestJam {Q Q' : Int32 → kx_S → Prop} (hQ : ∀ y0 y1, Q y0 y1 → Q' y0 y1) : ∀ (l0 : Nat) (σ : kx_S), wX8_freesLowestJam l0 σ Q → vX8_freesLowestJam l0 σ Q' := by
  intro l0 σ h
  unfold wX8_freesLowestJam at h
  unfold vX8_freesLowestJam
  intro e1
  have h := h.2
  obtain ⟨a19', e2, h⟩ := h
  intro a19 e3
  have x9 : a19' = a19 := Option.some.inj (e2.symm.trans e3)
  rw [x9] at h
  intro e4
  have h := h.2
  refine jaJx4a65c_size_8abf5 ?_ _ _ h
  intro r22 σ21 h
  intro v24 e5
  have h := h v24 e5
  obtain ⟨j, h⟩ := h
  intro j9
  exact jaX8_freesLowestJam_12 (k37 := wX8_freesLowestJam_37 Q) (k37' := vX8_freesLowestJam_37 Q') (fun _ _ h => jaX8_freesLowestJam_37 hQ _ _ h) hQ _ j9 _ _ _ h
set_option maxRecDepth 100000 in
set_option maxHeartbeats 4000000 in
theorem jfX8_freesLowestJam {I : kx_S → Prop} (W : fw_ I [50, 51]) {Q : Int32 → kx_S → Prop} (hQ : ∀ y0 y1, I y1 → Q y0 y1) : ∀ (l0 : Nat) (σ : kx_S), I σ → vX8_freesLowestJam l0 σ Q := by
  intro l0 σ i
  unfold vX8_freesLowestJam
  intro e1
  intro a19 e2
  intro e3
  refine jfJx4a65c_size_8abf5 (I := I) (fw_sub W (by decide)) ?_ _ _ i
  intro r22 σ21 iσ21
  intro v24 e4
  intro j
  exact jfX8_freesLowestJam_12 (I := I) (fw_sub W (by decide)) (k37 := vX8_freesLowestJam_37 Q) (fun _ _ i => jfX8_freesLowestJam_37 (I := I) (fw_sub W (by decide)) hQ _ _ i) hQ _ _ _ _ iσ21
def vX8_makeJamsKnown_41 (k2 : Nat → Int32 → kx_S → Prop) (Q : kx_S → Prop) (l0 : Nat) (l1 : Int32) (σ : kx_S) : Prop := ∀ v1 : Int32, v1 = l1 + 1 → k2 l0 v1 σ
set_option maxRecDepth 100000 in
set_option maxHeartbeats 4000000 in
theorem jcX8_makeJamsKnown_41 {k2 k2' k2'' : Nat → Int32 → kx_S → Prop} (hk2 : ∀ y0 y1 y2, k2 y0 y1 y2 → k2' y0 y1 y2 → k2'' y0 y1 y2) {Q Q' Q'' : kx_S → Prop} (hQ : ∀ y0, Q y0 → Q' y0 → Q'' y0) : ∀ (l0 : Nat) (l1 : Int32) (σ : kx_S), wX8_makeJamsKnown_41 k2 Q l0 l1 σ → vX8_makeJamsKnown_41 k2' Q' l0 l1 σ → wX8_makeJamsKnown_41 k2'' Q'' l0 l1 σ := by
  intro l0 l1 σ h v
  unfold wX8_makeJamsKnown_41 at h
  unfold vX8_makeJamsKnown_41 at v
  unfold wX8_makeJamsKnown_41
  intro v1 e1
  have h := h v1 e1
  have v := v v1 e1
  exact hk2 _ _ _ h v
set_option maxRecDepth 100000 in
set_option maxHeartbeats 4000000 in
theorem jaX8_makeJamsKnown_41 {k2 k2' : Nat → Int32 → kx_S → Prop} (hk2 : ∀ y0 y1 y2, k2 y0 y1 y2 → k2' y0 y1 y2) {Q Q' : kx_S → Prop} (hQ : ∀ y0, Q y0 → Q' y0) : ∀ (l0 : Nat) (l1 : Int32) (σ : kx_S), wX8_makeJamsKnown_41 k2 Q l0 l1 σ → vX8_makeJamsKnown_41 k2' Q' l0 l1 σ := by
  intro l0 l1 σ h
  unfold wX8_makeJamsKnown_41 at h
  unfold vX8_makeJamsKnown_41
  intro v1 e1
  have h := h v1 e1
  exact hk2 _ _ _ h
set_option maxRecDepth 100000 in
set_option maxHeartbeats 4000000 in
theorem jfX8_makeJamsKnown_41 {I : kx_S → Prop} (W : fw_ I []) {k2 : Nat → Int32 → kx_S → Prop} (hk2 : ∀ y0 y1 y2, I y2 → k2 y0 y1 y2) {Q : kx_S → Prop} (hQ : ∀ y0, I y0 → Q y0) : ∀ (l0 : Nat) (l1 : Int32) (σ : kx_S), I σ → vX8_makeJamsKnown_41 k2 Q l0 l1 σ := by
  intro l0 l1 σ i
  unfold vX8_makeJamsKnown_41
  intro v1 e1
  exact hk2 _ _ _ i
def vX8_makeJamsKnown_2 (Q : kx_S → Prop) : Nat → Nat → Int32 → kx_S → Prop
  | 0, _, _, _ => True
  | n + 1, l0, l1, σ => xt σ l0 = 10 → ∀ a3, xr σ 163 l0 = some a3 → xt σ a3 = 1 → vJx4a65c_size_8abf5 a3 σ (fun r6 σ5 => ((r6 ≤ l1 → Q σ5) ∧ (¬ (r6 ≤ l1) → xt σ5 l0 = 10 → ∀ a10, xr σ5 163 l0 = some a10 → xt σ5 a10 = 1 → vJx4a65c_get_915e3 a10 l1 σ5 (fun q13 σ12 => ∀ a15, q13 = some a15 → xt σ12 a15 = 3 → (((xi σ12 50 a15) = 0 → vX8_makeJamsKnown_41 (vX8_makeJamsKnown_2 Q n) Q l0 l1 σ12) ∧ (¬ ((xi σ12 50 a15) = 0) → ∀ σ19, σ19 = xsi σ12 51 a15 1 → vX8_makeJamsKnown_41 (vX8_makeJamsKnown_2 Q n) Q l0 l1 σ19))))))
set_option maxRecDepth 100000 in
set_option maxHeartbeats 4000000 in
theorem jcX8_makeJamsKnown_2 {Q Q' Q'' : kx_S → Prop} (hQ : ∀ y0, Q y0 → Q' y0 → Q'' y0) : ∀ (n : Nat) (l0 : Nat) (l1 : Int32) (σ : kx_S), wX8_makeJamsKnown_2 Q n l0 l1 σ → vX8_makeJamsKnown_2 Q' n l0 l1 σ → wX8_makeJamsKnown_2 Q'' n l0 l1 σ := by
  intro n
  induction n with
  | zero => intro l0 l1 σ h; exact h.elim
  | succ n ih =>
    intro l0 l1 σ h v
    unfold wX8_makeJamsKnown_2 at h
    unfold vX8_makeJamsKnown_2 at v
    unfold wX8_makeJamsKnown_2
    refine ⟨h.1, ?_⟩
    have v := v h.1
    have h := h.2
    obtain ⟨a3, e2, h⟩ := h
    refine ⟨a3, e2, ?_⟩
    have v := v a3 e2
    refine ⟨h.1, ?_⟩
    have v := v h.1
    have h := h.2
    refine jcJx4a65c_size_8abf5 ?_ _ _ h v
    intro r6 σ5 h v
    refine ⟨?_, ?_⟩
    · have h := h.1
      have v := v.1
      intro e4
      have h := h e4
      have v := v e4
      exact hQ _ h v
    · have h := h.2
      have v := v.2
      intro e5
      have h := h e5
      have v := v e5
      refine ⟨h.1, ?_⟩
      have v := v h.1
      have h := h.2
      obtain ⟨a10, e7, h⟩ := h
      refine ⟨a10, e7, ?_⟩
      have v := v a10 e7
      refine ⟨h.1, ?_⟩
      have v := v h.1
      have h := h.2
      refine jcJx4a65c_get_915e3 ?_ _ _ _ h v
      intro q13 σ12 h v
      obtain ⟨a15, e9, h⟩ := h
      refine ⟨a15, e9, ?_⟩
      have v := v a15 e9
      refine ⟨h.1, ?_⟩
      have v := v h.1
      have h := h.2
      refine ⟨?_, ?_⟩
      · have h := h.1
        have v := v.1
        intro e11
        have h := h e11
        have v := v e11
        exact jcX8_makeJamsKnown_41 (k2 := wX8_makeJamsKnown_2 Q n) (k2' := vX8_makeJamsKnown_2 Q' n) (k2'' := wX8_makeJamsKnown_2 Q'' n) (fun _ _ _ h v => ih _ _ _ h v) hQ _ _ _ h v
      · have h := h.2
        have v := v.2
        intro e12
        have h := h e12
        have v := v e12
        intro σ19 e13
        have h := h σ19 e13
        have v := v σ19 e13
        exact jcX8_makeJamsKnown_41 (k2 := wX8_makeJamsKnown_2 Q n) (k2' := vX8_makeJamsKnown_2 Q' n) (k2'' := wX8_makeJamsKnown_2 Q'' n) (fun _ _ _ h v => ih _ _ _ h v) hQ _ _ _ h v
set_option maxRecDepth 100000 in
set_option maxHeartbeats 4000000 in
theorem jaX8_makeJamsKnown_2 {Q Q' : kx_S → Prop} (hQ : ∀ y0, Q y0 → Q' y0) : ∀ (n m : Nat) (l0 : Nat) (l1 : Int32) (σ : kx_S), wX8_makeJamsKnown_2 Q n l0 l1 σ → vX8_makeJamsKnown_2 Q' m l0 l1 σ := by
  intro n
  induction n with
  | zero => intro m l0 l1 σ h; exact h.elim
  | succ n ih =>
    intro m l0 l1 σ h
    cases m with
    | zero => exact trivial
    | succ m =>
      unfold wX8_makeJamsKnown_2 at h
      unfold vX8_makeJamsKnown_2
      intro e1
      have h := h.2
      obtain ⟨a3', e2, h⟩ := h
      intro a3 e3
      have x9 : a3' = a3 := Option.some.inj (e2.symm.trans e3)
      rw [x9] at h
      intro e4
      have h := h.2
      refine jaJx4a65c_size_8abf5 ?_ _ _ h
      intro r6 σ5 h
      refine ⟨?_, ?_⟩
      · have h := h.1
        intro e5
        have h := h e5
        exact hQ _ h
      · have h := h.2
        intro e6
        have h := h e6
        intro e7
        have h := h.2
        obtain ⟨a10', e8, h⟩ := h
        intro a10 e9
        have x9 : a10' = a10 := Option.some.inj (e8.symm.trans e9)
        rw [x9] at h
        intro e10
        have h := h.2
        refine jaJx4a65c_get_915e3 ?_ _ _ _ h
        intro q13 σ12 h
        obtain ⟨a15', e11, h⟩ := h
        intro a15 e12
        have x9 : a15' = a15 := Option.some.inj (e11.symm.trans e12)
        rw [x9] at h
        intro e13
        have h := h.2
        refine ⟨?_, ?_⟩
        · have h := h.1
          intro e14
          have h := h e14
          exact jaX8_makeJamsKnown_41 (k2 := wX8_makeJamsKnown_2 Q n) (k2' := vX8_makeJamsKnown_2 Q' m) (fun _ _ _ h => ih m _ _ _ h) hQ _ _ _ h
        · have h := h.2
          intro e15
          have h := h e15
          intro σ19 e16
          have h := h σ19 e16
          exact jaX8_makeJamsKnown_41 (k2 := wX8_makeJamsKnown_2 Q n) (k2' := vX8_makeJamsKnown_2 Q' m) (fun _ _ _ h => ih m _ _ _ h) hQ _ _ _ h
set_option maxRecDepth 100000 in
set_option maxHeartbeats 4000000 in
theorem jfX8_makeJamsKnown_2 {I : kx_S → Prop} (W : fw_ I [51]) {Q : kx_S → Prop} (hQ : ∀ y0, I y0 → Q y0) : ∀ (n : Nat) (l0 : Nat) (l1 : Int32) (σ : kx_S), I σ → vX8_makeJamsKnown_2 Q n l0 l1 σ := by
  intro n
  induction n with
  | zero => intro l0 l1 σ i; exact trivial
  | succ n ih =>
    intro l0 l1 σ i
    unfold vX8_makeJamsKnown_2
    intro e1
    intro a3 e2
    intro e3
    refine jfJx4a65c_size_8abf5 (I := I) (fw_sub W (by decide)) ?_ _ _ i
    intro r6 σ5 iσ5
    refine ⟨?_, ?_⟩
    · intro e4
      exact hQ _ iσ5
    · intro e5
      intro e6
      intro a10 e7
      intro e8
      refine jfJx4a65c_get_915e3 (I := I) (fw_sub W (by decide)) ?_ _ _ _ iσ5
      intro q13 σ12 iσ12
      intro a15 e9
      intro e10
      refine ⟨?_, ?_⟩
      · intro e11
        exact jfX8_makeJamsKnown_41 (I := I) (fw_sub W (by decide)) (k2 := vX8_makeJamsKnown_2 Q n) (fun _ _ _ i => ih _ _ _ i) hQ _ _ _ iσ12
      · intro e12
        intro σ19 e13
        have iσ19 : I σ19 := by rw [e13]; exact ((W _ iσ12).1 51 (by decide)).1 _ _
        exact jfX8_makeJamsKnown_41 (I := I) (fw_sub W (by decide)) (k2 := vX8_makeJamsKnown_2 Q n) (fun _ _ _ i => ih _ _ _ i) hQ _ _ _ iσ19
def vX8_makeJamsKnown (l0 : Nat) (σ : kx_S) (Q : kx_S → Prop) : Prop := ∀ j, vX8_makeJamsKnown_2 Q j l0 0 σ
set_option maxRecDepth 100000 in
set_option maxHeartbeats 4000000 in
theorem jcX8_makeJamsKnown {Q Q' Q'' : kx_S → Prop} (hQ : ∀ y0, Q y0 → Q' y0 → Q'' y0) : ∀ (l0 : Nat) (σ : kx_S), wX8_makeJamsKnown l0 σ Q → vX8_makeJamsKnown l0 σ Q' → wX8_makeJamsKnown l0 σ Q'' := by
  intro l0 σ h v
  unfold wX8_makeJamsKnown at h
  unfold vX8_makeJamsKnown at v
  unfold wX8_makeJamsKnown
  obtain ⟨j, h⟩ := h
  refine ⟨j, ?_⟩
  have v := v j
  exact jcX8_makeJamsKnown_2 hQ _ _ _ _ h v
set_option maxRecDepth 100000 in
set_option maxHeartbeats 4000000 in
theorem jaX8_makeJamsKnown {Q Q' : kx_S → Prop} (hQ : ∀ y0, Q y0 → Q' y0) : ∀ (l0 : Nat) (σ : kx_S), wX8_makeJamsKnown l0 σ Q → vX8_makeJamsKnown l0 σ Q' := by
  intro l0 σ h
  unfold wX8_makeJamsKnown at h
  unfold vX8_makeJamsKnown
  obtain ⟨j, h⟩ := h
  intro j9
  exact jaX8_makeJamsKnown_2 hQ _ j9 _ _ _ h
set_option maxRecDepth 100000 in
set_option maxHeartbeats 4000000 in
theorem jfX8_makeJamsKnown {I : kx_S → Prop} (W : fw_ I [51]) {Q : kx_S → Prop} (hQ : ∀ y0, I y0 → Q y0) : ∀ (l0 : Nat) (σ : kx_S), I σ → vX8_makeJamsKnown l0 σ Q := by
  intro l0 σ i
  unfold vX8_makeJamsKnown
  intro j
  exact jfX8_makeJamsKnown_2 (I := I) (fw_sub W (by decide)) hQ _ _ _ _ i
def vX9_init (l0 : Nat) (σ : kx_S) (Q : kx_S → Prop) : Prop := xc σ < kx_N → ¬ (500 : Int32) < 0 → (Int32.toNatClampNeg 500) ≤ 600 → ∀ p1, xt σ p1 = 0 → p1 ≠ xz σ → ∀ σ7, σ7 = xnewA σ p1 20 (Int32.toNatClampNeg 500) → xt σ7 l0 = 11 → ∀ σ10, σ10 = xsr σ7 176 l0 (some p1) → Q σ10
set_option maxRecDepth 100000 in
set_option maxHeartbeats 4000000 in
theorem jcX9_init {Q Q' Q'' : kx_S → Prop} (hQ : ∀ y0, Q y0 → Q' y0 → Q'' y0) : ∀ (l0 : Nat) (σ : kx_S), wX9_init l0 σ Q → vX9_init l0 σ Q' → wX9_init l0 σ Q'' := by
  intro l0 σ h v
  unfold wX9_init at h
  unfold vX9_init at v
  unfold wX9_init
  refine ⟨h.1, ?_⟩
  have v := v h.1
  have h := h.2
  refine ⟨h.1, ?_⟩
  have v := v h.1
  have h := h.2
  refine ⟨h.1, ?_⟩
  have v := v h.1
  have h := h.2
  intro p1 e4 e5
  have h := h p1 e4 e5
  have v := v p1 e4 e5
  intro σ7 e6
  have h := h σ7 e6
  have v := v σ7 e6
  refine ⟨h.1, ?_⟩
  have v := v h.1
  have h := h.2
  intro σ10 e8
  have h := h σ10 e8
  have v := v σ10 e8
  exact hQ _ h v
set_option maxRecDepth 100000 in
set_option maxHeartbeats 4000000 in
theorem jaX9_init {Q Q' : kx_S → Prop} (hQ : ∀ y0, Q y0 → Q' y0) : ∀ (l0 : Nat) (σ : kx_S), wX9_init l0 σ Q → vX9_init l0 σ Q' := by
  intro l0 σ h
  unfold wX9_init at h
  unfold vX9_init
  intro e1
  have h := h.2
  intro e2
  have h := h.2
  intro e3
  have h := h.2
  intro p1 e4 e5
  have h := h p1 e4 e5
  intro σ7 e6
  have h := h σ7 e6
  intro e7
  have h := h.2
  intro σ10 e8
  have h := h σ10 e8
  exact hQ _ h
set_option maxRecDepth 100000 in
set_option maxHeartbeats 4000000 in
theorem jfX9_init {I : kx_S → Prop} (W : fw_ I [176, 1220]) {Q : kx_S → Prop} (hQ : ∀ y0, I y0 → Q y0) : ∀ (l0 : Nat) (σ : kx_S), I σ → vX9_init l0 σ Q := by
  intro l0 σ i
  unfold vX9_init
  intro e1
  intro e2
  intro e3
  intro p1 e4 e5
  intro σ7 e6
  have iσ7 : I σ7 := by rw [e6]; exact (W _ i).2.2.2.2.2.2.2 20 (by decide) _ e4 _
  intro e7
  intro σ10 e8
  have iσ10 : I σ10 := by rw [e8]; exact ((W _ iσ7).1 176 (by decide)).2.1 _ _
  exact hQ _ iσ10
def vX9_append_3 (Q : kx_S → Prop) : Nat → Nat → Int32 → Int32 → kx_S → Prop
  | 0, _, _, _, _ => True
  | n + 1, l0, l1, l2, σ => ((l2 < 0 → Q σ) ∧ (¬ (l2 < 0) → xt σ l0 = 11 → ∀ a3, xr σ 176 l0 = some a3 → xt σ a3 = 20 → (((nI (xn σ a3)) ≤ (xi σ 177 l0) → Q σ) ∧ (¬ ((nI (xn σ a3)) ≤ (xi σ 177 l0)) → ∀ a7, xr σ 176 l0 = some a7 → ∀ v9 : Int32, v9 = (l1.toUInt32 >>> (l2.toUInt32 &&& Int32.toUInt32 31)).toInt32 → xt σ a7 = 20 → vp_in (xi σ 177 l0) (xn σ a7) → ∀ σ12, σ12 = xsai σ a7 (xi σ 177 l0).toNatClampNeg (v9 &&& 255) → ∀ σ16, σ16 = xsi σ12 177 l0 ((xi σ12 177 l0) + 1) → ∀ v20 : Int32, v20 = l2 + (-8) → vX9_append_3 Q n l0 l1 v20 σ16))))
set_option maxRecDepth 100000 in
set_option maxHeartbeats 4000000 in
theorem jcX9_append_3 {Q Q' Q'' : kx_S → Prop} (hQ : ∀ y0, Q y0 → Q' y0 → Q'' y0) : ∀ (n : Nat) (l0 : Nat) (l1 : Int32) (l2 : Int32) (σ : kx_S), wX9_append_3 Q n l0 l1 l2 σ → vX9_append_3 Q' n l0 l1 l2 σ → wX9_append_3 Q'' n l0 l1 l2 σ := by
  intro n
  induction n with
  | zero => intro l0 l1 l2 σ h; exact h.elim
  | succ n ih =>
    intro l0 l1 l2 σ h v
    unfold wX9_append_3 at h
    unfold vX9_append_3 at v
    unfold wX9_append_3
    refine ⟨?_, ?_⟩
    · have h := h.1
      have v := v.1
      intro e1
      have h := h e1
      have v := v e1
      exact hQ _ h v
    · have h := h.2
      have v := v.2
      intro e2
      have h := h e2
      have v := v e2
      refine ⟨h.1, ?_⟩
      have v := v h.1
      have h := h.2
      obtain ⟨a3, e4, h⟩ := h
      refine ⟨a3, e4, ?_⟩
      have v := v a3 e4
      refine ⟨h.1, ?_⟩
      have v := v h.1
      have h := h.2
      refine ⟨?_, ?_⟩
      · have h := h.1
        have v := v.1
        intro e6
        have h := h e6
        have v := v e6
        exact hQ _ h v
      · have h := h.2
        have v := v.2
        intro e7
        have h := h e7
        have v := v e7
        obtain ⟨a7, e8, h⟩ := h
        refine ⟨a7, e8, ?_⟩
        have v := v a7 e8
        intro v9 e9
        have h := h v9 e9
        have v := v v9 e9
        refine ⟨h.1, ?_⟩
        have v := v h.1
        have h := h.2
        refine ⟨h.1, ?_⟩
        have v := v h.1
        have h := h.2
        intro σ12 e12
        have h := h σ12 e12
        have v := v σ12 e12
        intro σ16 e13
        have h := h σ16 e13
        have v := v σ16 e13
        intro v20 e14
        have h := h v20 e14
        have v := v v20 e14
        exact ih _ _ _ _ h v
set_option maxRecDepth 100000 in
set_option maxHeartbeats 4000000 in
theorem jaX9_append_3 {Q Q' : kx_S → Prop} (hQ : ∀ y0, Q y0 → Q' y0) : ∀ (n m : Nat) (l0 : Nat) (l1 : Int32) (l2 : Int32) (σ : kx_S), wX9_append_3 Q n l0 l1 l2 σ → vX9_append_3 Q' m l0 l1 l2 σ := by
  intro n
  induction n with
  | zero => intro m l0 l1 l2 σ h; exact h.elim
  | succ n ih =>
    intro m l0 l1 l2 σ h
    cases m with
    | zero => exact trivial
    | succ m =>
      unfold wX9_append_3 at h
      unfold vX9_append_3
      refine ⟨?_, ?_⟩
      · have h := h.1
        intro e1
        have h := h e1
        exact hQ _ h
      · have h := h.2
        intro e2
        have h := h e2
        intro e3
        have h := h.2
        obtain ⟨a3', e4, h⟩ := h
        intro a3 e5
        have x9 : a3' = a3 := Option.some.inj (e4.symm.trans e5)
        rw [x9] at h
        intro e6
        have h := h.2
        refine ⟨?_, ?_⟩
        · have h := h.1
          intro e7
          have h := h e7
          exact hQ _ h
        · have h := h.2
          intro e8
          have h := h e8
          obtain ⟨a7', e9, h⟩ := h
          intro a7 e10
          have x9 : a7' = a7 := Option.some.inj (e9.symm.trans e10)
          rw [x9] at h
          intro v9 e11
          have h := h v9 e11
          intro e12
          have h := h.2
          intro e13
          have h := h.2
          intro σ12 e14
          have h := h σ12 e14
          intro σ16 e15
          have h := h σ16 e15
          intro v20 e16
          have h := h v20 e16
          exact ih m _ _ _ _ h
set_option maxRecDepth 100000 in
set_option maxHeartbeats 4000000 in
theorem jfX9_append_3 {I : kx_S → Prop} (W : fw_ I [177, 1001]) {Q : kx_S → Prop} (hQ : ∀ y0, I y0 → Q y0) : ∀ (n : Nat) (l0 : Nat) (l1 : Int32) (l2 : Int32) (σ : kx_S), I σ → vX9_append_3 Q n l0 l1 l2 σ := by
  intro n
  induction n with
  | zero => intro l0 l1 l2 σ i; exact trivial
  | succ n ih =>
    intro l0 l1 l2 σ i
    unfold vX9_append_3
    refine ⟨?_, ?_⟩
    · intro e1
      exact hQ _ i
    · intro e2
      intro e3
      intro a3 e4
      intro e5
      refine ⟨?_, ?_⟩
      · intro e6
        exact hQ _ i
      · intro e7
        intro a7 e8
        intro v9 e9
        intro e10
        intro e11
        intro σ12 e12
        have iσ12 : I σ12 := by rw [e12]; exact (W _ i).2.1 (by decide) _ _ _
        intro σ16 e13
        have iσ16 : I σ16 := by rw [e13]; exact ((W _ iσ12).1 177 (by decide)).1 _ _
        intro v20 e14
        exact ih _ _ _ _ iσ16
def vX9_append (l0 : Nat) (l1 : Int32) (σ : kx_S) (Q : kx_S → Prop) : Prop := ∀ j, vX9_append_3 Q j l0 l1 24 σ
set_option maxRecDepth 100000 in
set_option maxHeartbeats 4000000 in
theorem jcX9_append {Q Q' Q'' : kx_S → Prop} (hQ : ∀ y0, Q y0 → Q' y0 → Q'' y0) : ∀ (l0 : Nat) (l1 : Int32) (σ : kx_S), wX9_append l0 l1 σ Q → vX9_append l0 l1 σ Q' → wX9_append l0 l1 σ Q'' := by
  intro l0 l1 σ h v
  unfold wX9_append at h
  unfold vX9_append at v
  unfold wX9_append
  obtain ⟨j, h⟩ := h
  refine ⟨j, ?_⟩
  have v := v j
  exact jcX9_append_3 hQ _ _ _ _ _ h v
set_option maxRecDepth 100000 in
set_option maxHeartbeats 4000000 in
theorem jaX9_append {Q Q' : kx_S → Prop} (hQ : ∀ y0, Q y0 → Q' y0) : ∀ (l0 : Nat) (l1 : Int32) (σ : kx_S), wX9_append l0 l1 σ Q → vX9_append l0 l1 σ Q' := by
  intro l0 l1 σ h
  unfold wX9_append at h
  unfold vX9_append
  obtain ⟨j, h⟩ := h
  intro j9
  exact jaX9_append_3 hQ _ j9 _ _ _ _ h
set_option maxRecDepth 100000 in
set_option maxHeartbeats 4000000 in
theorem jfX9_append {I : kx_S → Prop} (W : fw_ I [177, 1001]) {Q : kx_S → Prop} (hQ : ∀ y0, I y0 → Q y0) : ∀ (l0 : Nat) (l1 : Int32) (σ : kx_S), I σ → vX9_append l0 l1 σ Q := by
  intro l0 l1 σ i
  unfold vX9_append
  intro j
  exact jfX9_append_3 (I := I) (fw_sub W (by decide)) hQ _ _ _ _ _ i

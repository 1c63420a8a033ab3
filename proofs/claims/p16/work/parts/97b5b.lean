def vX11_moveLogsOfCell_103 (k39 : Nat → Nat → Int32 → Int32 → Nat → Int32 → Int32 → kx_S → Prop) (Q : kx_S → Prop) (l0 : Nat) (l1 : Nat) (l2 : Int32) (l3 : Int32) (l4 : Nat) (l5 : Int32) (l6 : Int32) (σ : kx_S) : Prop := ∀ v1 : Int32, v1 = l6 + (-1) → k39 l0 l1 l2 l3 l4 l5 v1 σ
set_option maxRecDepth 100000 in
set_option maxHeartbeats 4000000 in
theorem jcX11_moveLogsOfCell_103 {k39 k39' k39'' : Nat → Nat → Int32 → Int32 → Nat → Int32 → Int32 → kx_S → Prop} (hk39 : ∀ y0 y1 y2 y3 y4 y5 y6 y7, k39 y0 y1 y2 y3 y4 y5 y6 y7 → k39' y0 y1 y2 y3 y4 y5 y6 y7 → k39'' y0 y1 y2 y3 y4 y5 y6 y7) {Q Q' Q'' : kx_S → Prop} (hQ : ∀ y0, Q y0 → Q' y0 → Q'' y0) : ∀ (l0 : Nat) (l1 : Nat) (l2 : Int32) (l3 : Int32) (l4 : Nat) (l5 : Int32) (l6 : Int32) (σ : kx_S), wX11_moveLogsOfCell_103 k39 Q l0 l1 l2 l3 l4 l5 l6 σ → vX11_moveLogsOfCell_103 k39' Q' l0 l1 l2 l3 l4 l5 l6 σ → wX11_moveLogsOfCell_103 k39'' Q'' l0 l1 l2 l3 l4 l5 l6 σ := by
  intro l0 l1 l2 l3 l4 l5 l6 σ h v
  unfold wX11_moveLogsOfCell_103 at h
  unfold vX11_moveLogsOfCell_103 at v
  unfold wX11_moveLogsOfCell_103
  intro v1 e1
  have h := h v1 e1
  have v := v v1 e1
  exact hk39 _ _ _ _ _ _ _ _ h v
set_option maxRecDepth 100000 in
set_option maxHeartbeats 4000000 in
theorem jaX11_moveLogsOfCell_103 {k39 k39' : Nat → Nat → Int32 → Int32 → Nat → Int32 → Int32 → kx_S → Prop} (hk39 : ∀ y0 y1 y2 y3 y4 y5 y6 y7, k39 y0 y1 y2 y3 y4 y5 y6 y7 → k39' y0 y1 y2 y3 y4 y5 y6 y7) {Q Q' : kx_S → Prop} (hQ : ∀ y0, Q y0 → Q' y0) : ∀ (l0 : Nat) (l1 : Nat) (l2 : Int32) (l3 : Int32) (l4 : Nat) (l5 : Int32) (l6 : Int32) (σ : kx_S), wX11_moveLogsOfCell_103 k39 Q l0 l1 l2 l3 l4 l5 l6 σ → vX11_moveLogsOfCell_103 k39' Q' l0 l1 l2 l3 l4 l5 l6 σ := by
  intro l0 l1 l2 l3 l4 l5 l6 σ h
  unfold wX11_moveLogsOfCell_103 at h
  unfold vX11_moveLogsOfCell_103
  intro v1 e1
  have h := h v1 e1
  exact hk39 _ _ _ _ _ _ _ _ h
set_option maxRecDepth 100000 in
set_option maxHeartbeats 4000000 in
theorem jfX11_moveLogsOfCell_103 {I : kx_S → Prop} (W : fw_ I []) {k39 : Nat → Nat → Int32 → Int32 → Nat → Int32 → Int32 → kx_S → Prop} (hk39 : ∀ y0 y1 y2 y3 y4 y5 y6 y7, I y7 → k39 y0 y1 y2 y3 y4 y5 y6 y7) {Q : kx_S → Prop} (hQ : ∀ y0, I y0 → Q y0) : ∀ (l0 : Nat) (l1 : Nat) (l2 : Int32) (l3 : Int32) (l4 : Nat) (l5 : Int32) (l6 : Int32) (σ : kx_S), I σ → vX11_moveLogsOfCell_103 k39 Q l0 l1 l2 l3 l4 l5 l6 σ := by
  intro l0 l1 l2 l3 l4 l5 l6 σ i
  unfold vX11_moveLogsOfCell_103
  intro v1 e1
  exact hk39 _ _ _ _ _ _ _ _ i
def vX11_moveLogsOfCell_39 (Q : kx_S → Prop) : Nat → Nat → Nat → Int32 → Int32 → Nat → Int32 → Int32 → kx_S → Prop
  | 0, _, _, _, _, _, _, _, _ => True
  | n + 1, l0, l1, l2, l3, l4, l5, l6, σ => ((l6 ≤ 0 → Q σ) ∧ (¬ (l6 ≤ 0) → xt σ l4 = 3 → ∀ a4, xr σ 49 l4 = some a4 → xt σ a4 = 1 → vJx4a65c_size_8abf5 a4 σ (fun r7 σ6 => ((r7 ≤ l5 → Q σ6) ∧ (¬ (r7 ≤ l5) → xt σ6 l4 = 3 → ∀ a11, xr σ6 49 l4 = some a11 → xt σ6 a11 = 1 → vJx4a65c_get_915e3 a11 l5 σ6 (fun q14 σ13 => ∀ a16, q14 = some a16 → xt σ13 a16 = 8 → xt σ13 l0 = 13 → vX11_movesOn l0 a16 l1 l2 l3 σ13 (fun r20 σ19 => ((r20 = 0 → ∀ v23 : Int32, v23 = l5 + 1 → vX11_moveLogsOfCell_103 (vX11_moveLogsOfCell_39 Q n) Q l0 l1 l2 l3 l4 v23 l6 σ19) ∧ (¬ (r20 = 0) → xt σ19 l4 = 3 → ∀ a25, xr σ19 49 l4 = some a25 → xt σ19 a25 = 1 → vJx4a65c_remove_915e3 a25 l5 σ19 (fun q28 σ27 => vX11_moveLogsOfCell_103 (vX11_moveLogsOfCell_39 Q n) Q l0 l1 l2 l3 l4 l5 l6 σ27))))))))))
set_option maxRecDepth 100000 in
set_option maxHeartbeats 4000000 in
theorem jcX11_moveLogsOfCell_39 {Q Q' Q'' : kx_S → Prop} (hQ : ∀ y0, Q y0 → Q' y0 → Q'' y0) : ∀ (n : Nat) (l0 : Nat) (l1 : Nat) (l2 : Int32) (l3 : Int32) (l4 : Nat) (l5 : Int32) (l6 : Int32) (σ : kx_S), wX11_moveLogsOfCell_39 Q n l0 l1 l2 l3 l4 l5 l6 σ → vX11_moveLogsOfCell_39 Q' n l0 l1 l2 l3 l4 l5 l6 σ → wX11_moveLogsOfCell_39 Q'' n l0 l1 l2 l3 l4 l5 l6 σ := by
  intro n
  induction n with
  | zero => intro l0 l1 l2 l3 l4 l5 l6 σ h; exact h.elim
  | succ n ih =>
    intro l0 l1 l2 l3 l4 l5 l6 σ h v
    unfold wX11_moveLogsOfCell_39 at h
    unfold vX11_moveLogsOfCell_39 at v
    unfold wX11_moveLogsOfCell_39
    refine ⟨?_, ?_⟩
    · have h := h.1
      have v := v.1
      intro e1
      have h := h e1
      have v := v e1
      exact hQ _ h v
    · have h := h.2
      have v := v.2
      intro e2
      have h := h e2
      have v := v e2
      refine ⟨h.1, ?_⟩
      have v := v h.1
      have h := h.2
      obtain ⟨a4, e4, h⟩ := h
      refine ⟨a4, e4, ?_⟩
      have v := v a4 e4
      refine ⟨h.1, ?_⟩
      have v := v h.1
      have h := h.2
      refine jcJx4a65c_size_8abf5 ?_ _ _ h v
      intro r7 σ6 h v
      refine ⟨?_, ?_⟩
      · have h := h.1
        have v := v.1
        intro e6
        have h := h e6
        have v := v e6
        exact hQ _ h v
      · have h := h.2
        have v := v.2
        intro e7
        have h := h e7
        have v := v e7
        refine ⟨h.1, ?_⟩
        have v := v h.1
        have h := h.2
        obtain ⟨a11, e9, h⟩ := h
        refine ⟨a11, e9, ?_⟩
        have v := v a11 e9
        refine ⟨h.1, ?_⟩
        have v := v h.1
        have h := h.2
        refine jcJx4a65c_get_915e3 ?_ _ _ _ h v
        intro q14 σ13 h v
        obtain ⟨a16, e11, h⟩ := h
        refine ⟨a16, e11, ?_⟩
        have v := v a16 e11
        refine ⟨h.1, ?_⟩
        have v := v h.1
        have h := h.2
        refine ⟨h.1, ?_⟩
        have v := v h.1
        have h := h.2
        refine jcX11_movesOn ?_ _ _ _ _ _ _ h v
        intro r20 σ19 h v
        refine ⟨?_, ?_⟩
        · have h := h.1
          have v := v.1
          intro e14
          have h := h e14
          have v := v e14
          intro v23 e15
          have h := h v23 e15
          have v := v v23 e15
          exact jcX11_moveLogsOfCell_103 (k39 := wX11_moveLogsOfCell_39 Q n) (k39' := vX11_moveLogsOfCell_39 Q' n) (k39'' := wX11_moveLogsOfCell_39 Q'' n) (fun _ _ _ _ _ _ _ _ h v => ih _ _ _ _ _ _ _ _ h v) hQ _ _ _ _ _ _ _ _ h v
        · have h := h.2
          have v := v.2
          intro e16
          have h := h e16
          have v := v e16
          refine ⟨h.1, ?_⟩
          have v := v h.1
          have h := h.2
          obtain ⟨a25, e18, h⟩ := h
          refine ⟨a25, e18, ?_⟩
          have v := v a25 e18
          refine ⟨h.1, ?_⟩
          have v := v h.1
          have h := h.2
          refine jcJx4a65c_remove_915e3 ?_ _ _ _ h v
          intro q28 σ27 h v
          exact jcX11_moveLogsOfCell_103 (k39 := wX11_moveLogsOfCell_39 Q n) (k39' := vX11_moveLogsOfCell_39 Q' n) (k39'' := wX11_moveLogsOfCell_39 Q'' n) (fun _ _ _ _ _ _ _ _ h v => ih _ _ _ _ _ _ _ _ h v) hQ _ _ _ _ _ _ _ _ h v
set_option maxRecDepth 100000 in
set_option maxHeartbeats 4000000 in
theorem jaX11_moveLogsOfCell_39 {Q Q' : kx_S → Prop} (hQ : ∀ y0, Q y0 → Q' y0) : ∀ (n m : Nat) (l0 : Nat) (l1 : Nat) (l2 : Int32) (l3 : Int32) (l4 : Nat) (l5 : Int32) (l6 : Int32) (σ : kx_S), wX11_moveLogsOfCell_39 Q n l0 l1 l2 l3 l4 l5 l6 σ → vX11_moveLogsOfCell_39 Q' m l0 l1 l2 l3 l4 l5 l6 σ := by
  intro n
  induction n with
  | zero => intro m l0 l1 l2 l3 l4 l5 l6 σ h; exact h.elim
  | succ n ih =>
    intro m l0 l1 l2 l3 l4 l5 l6 σ h
    cases m with
    | zero => exact trivial
    | succ m =>
      unfold wX11_moveLogsOfCell_39 at h
      unfold vX11_moveLogsOfCell_39
      refine ⟨?_, ?_⟩
      · have h := h.1
        intro e1
        have h := h e1
        exact hQ _ h
      · have h := h.2
        intro e2
        have h := h e2
        intro e3
        have h := h.2
        obtain ⟨a4', e4, h⟩ := h
        intro a4 e5
        have x9 : a4' = a4 := Option.some.inj (e4.symm.trans e5)
        rw [x9] at h
        intro e6
        have h := h.2
        refine jaJx4a65c_size_8abf5 ?_ _ _ h
        intro r7 σ6 h
        refine ⟨?_, ?_⟩
        · have h := h.1
          intro e7
          have h := h e7
          exact hQ _ h
        · have h := h.2
          intro e8
          have h := h e8
          intro e9
          have h := h.2
          obtain ⟨a11', e10, h⟩ := h
          intro a11 e11
          have x9 : a11' = a11 := Option.some.inj (e10.symm.trans e11)
          rw [x9] at h
          intro e12
          have h := h.2
          refine jaJx4a65c_get_915e3 ?_ _ _ _ h
          intro q14 σ13 h
          obtain ⟨a16', e13, h⟩ := h
          intro a16 e14
          have x9 : a16' = a16 := Option.some.inj (e13.symm.trans e14)
          rw [x9] at h
          intro e15
          have h := h.2
          intro e16
          have h := h.2
          refine jaX11_movesOn ?_ _ _ _ _ _ _ h
          intro r20 σ19 h
          refine ⟨?_, ?_⟩
          · have h := h.1
            intro e17
            have h := h e17
            intro v23 e18
            have h := h v23 e18
            exact jaX11_moveLogsOfCell_103 (k39 := wX11_moveLogsOfCell_39 Q n) (k39' := vX11_moveLogsOfCell_39 Q' m) (fun _ _ _ _ _ _ _ _ h => ih m _ _ _ _ _ _ _ _ h) hQ _ _ _ _ _ _ _ _ h
          · have h := h.2
            intro e19
            have h := h e19
            intro e20
            have h := h.2
            obtain ⟨a25', e21, h⟩ := h
            intro a25 e22
            have x9 : a25' = a25 := Option.some.inj (e21.symm.trans e22)
            rw [x9] at h
            intro e23
            have h := h.2
            refine jaJx4a65c_remove_915e3 ?_ _ _ _ h
            intro q28 σ27 h
            exact jaX11_moveLogsOfCell_103 (k39 := wX11_moveLogsOfCell_39 Q n) (k39' := vX11_moveLogsOfCell_39 Q' m) (fun _ _ _ _ _ _ _ _ h => ih m _ _ _ _ _ _ _ _ h) hQ _ _ _ _ _ _ _ _ h
set_option maxRecDepth 100000 in
set_option maxHeartbeats 4000000 in
theorem jfX11_moveLogsOfCell_39 {I : kx_S → Prop} (W : fw_ I [16, 17, 18, 82, 83, 84, 132, 133, 134, 1001, 1002, 1003, 1222]) {Q : kx_S → Prop} (hQ : ∀ y0, I y0 → Q y0) : ∀ (n : Nat) (l0 : Nat) (l1 : Nat) (l2 : Int32) (l3 : Int32) (l4 : Nat) (l5 : Int32) (l6 : Int32) (σ : kx_S), I σ → vX11_moveLogsOfCell_39 Q n l0 l1 l2 l3 l4 l5 l6 σ := by
  intro n
  induction n with
  | zero => intro l0 l1 l2 l3 l4 l5 l6 σ i; exact trivial
  | succ n ih =>
    intro l0 l1 l2 l3 l4 l5 l6 σ i
    unfold vX11_moveLogsOfCell_39
    refine ⟨?_, ?_⟩
    · intro e1
      exact hQ _ i
    · intro e2
      intro e3
      intro a4 e4
      intro e5
      refine jfJx4a65c_size_8abf5 (I := I) (fw_sub W (by decide)) ?_ _ _ i
      intro r7 σ6 iσ6
      refine ⟨?_, ?_⟩
      · intro e6
        exact hQ _ iσ6
      · intro e7
        intro e8
        intro a11 e9
        intro e10
        refine jfJx4a65c_get_915e3 (I := I) (fw_sub W (by decide)) ?_ _ _ _ iσ6
        intro q14 σ13 iσ13
        intro a16 e11
        intro e12
        intro e13
        refine jfX11_movesOn (I := I) (fw_sub W (by decide)) ?_ _ _ _ _ _ _ iσ13
        intro r20 σ19 iσ19
        refine ⟨?_, ?_⟩
        · intro e14
          intro v23 e15
          exact jfX11_moveLogsOfCell_103 (I := I) (fw_sub W (by decide)) (k39 := vX11_moveLogsOfCell_39 Q n) (fun _ _ _ _ _ _ _ _ i => ih _ _ _ _ _ _ _ _ i) hQ _ _ _ _ _ _ _ _ iσ19
        · intro e16
          intro e17
          intro a25 e18
          intro e19
          refine jfJx4a65c_remove_915e3 (I := I) (fw_sub W (by decide)) ?_ _ _ _ iσ19
          intro q28 σ27 iσ27
          exact jfX11_moveLogsOfCell_103 (I := I) (fw_sub W (by decide)) (k39 := vX11_moveLogsOfCell_39 Q n) (fun _ _ _ _ _ _ _ _ i => ih _ _ _ _ _ _ _ _ i) hQ _ _ _ _ _ _ _ _ iσ27
def vX11_moveLogsOfCell (l0 : Nat) (l1 : Nat) (l2 : Int32) (l3 : Int32) (σ : kx_S) (Q : kx_S → Prop) : Prop := xt σ l1 = 10 → ∀ a31, xr σ 163 l1 = some a31 → xt σ a31 = 1 → vJx4a65c_get_915e3 a31 l2 σ (fun q34 σ33 => ∀ a36, q34 = some a36 → xt σ33 a36 = 3 → (((xi σ33 50 a36) = 0 → ∀ a40, xr σ33 49 a36 = some a40 → xt σ33 a40 = 1 → vJx4a65c_size_8abf5 a40 σ33 (fun r43 σ42 => ∀ j, vX11_moveLogsOfCell_39 Q j l0 l1 l2 l3 a36 0 r43 σ42)) ∧ (¬ ((xi σ33 50 a36) = 0) → Q σ33)))
set_option maxRecDepth 100000 in
set_option maxHeartbeats 4000000 in
theorem jcX11_moveLogsOfCell {Q Q' Q'' : kx_S → Prop} (hQ : ∀ y0, Q y0 → Q' y0 → Q'' y0) : ∀ (l0 : Nat) (l1 : Nat) (l2 : Int32) (l3 : Int32) (σ : kx_S), wX11_moveLogsOfCell l0 l1 l2 l3 σ Q → vX11_moveLogsOfCell l0 l1 l2 l3 σ Q' → wX11_moveLogsOfCell l0 l1 l2 l3 σ Q'' := by
  intro l0 l1 l2 l3 σ h v
  unfold wX11_moveLogsOfCell at h
  unfold vX11_moveLogsOfCell at v
  unfold wX11_moveLogsOfCell
  refine ⟨h.1, ?_⟩
  have v := v h.1
  have h := h.2
  obtain ⟨a31, e2, h⟩ := h
  refine ⟨a31, e2, ?_⟩
  have v := v a31 e2
  refine ⟨h.1, ?_⟩
  have v := v h.1
  have h := h.2
  refine jcJx4a65c_get_915e3 ?_ _ _ _ h v
  intro q34 σ33 h v
  obtain ⟨a36, e4, h⟩ := h
  refine ⟨a36, e4, ?_⟩
  have v := v a36 e4
  refine ⟨h.1, ?_⟩
  have v := v h.1
  have h := h.2
  refine ⟨?_, ?_⟩
  · have h := h.1
    have v := v.1
    intro e6
    have h := h e6
    have v := v e6
    obtain ⟨a40, e7, h⟩ := h
    refine ⟨a40, e7, ?_⟩
    have v := v a40 e7
    refine ⟨h.1, ?_⟩
    have v := v h.1
    have h := h.2
    refine jcJx4a65c_size_8abf5 ?_ _ _ h v
    intro r43 σ42 h v
    obtain ⟨j, h⟩ := h
    refine ⟨j, ?_⟩
    have v := v j
    exact jcX11_moveLogsOfCell_39 hQ _ _ _ _ _ _ _ _ _ h v
  · have h := h.2
    have v := v.2
    intro e9
    have h := h e9
    have v := v e9
    exact hQ _ h v
set_option maxRecDepth 100000 in
set_option maxHeartbeats 4000000 in
theorem jaX11_moveLogsOfCell {Q Q' : kx_S → Prop} (hQ : ∀ y0, Q y0 → Q' y0) : ∀ (l0 : Nat) (l1 : Nat) (l2 : Int32) (l3 : Int32) (σ : kx_S), wX11_moveLogsOfCell l0 l1 l2 l3 σ Q → vX11_moveLogsOfCell l0 l1 l2 l3 σ Q' := by
  intro l0 l1 l2 l3 σ h
  unfold wX11_moveLogsOfCell at h
  unfold vX11_moveLogsOfCell
  intro e1
  have h := h.2
  obtain ⟨a31', e2, h⟩ := h
  intro a31 e3
  have x9 : a31' = a31 := Option.some.inj (e2.symm.trans e3)
  rw [x9] at h
  intro e4
  have h := h.2
  refine jaJx4a65c_get_915e3 ?_ _ _ _ h
  intro q34 σ33 h
  obtain ⟨a36', e5, h⟩ := h
  intro a36 e6
  have x9 : a36' = a36 := Option.some.inj (e5.symm.trans e6)
  rw [x9] at h
  intro e7
  have h := h.2
  refine ⟨?_, ?_⟩
  · have h := h.1
    intro e8
    have h := h e8
    obtain ⟨a40', e9, h⟩ := h
    intro a40 e10
    have x9 : a40' = a40 := Option.some.inj (e9.symm.trans e10)
    rw [x9] at h
    intro e11
    have h := h.2
    refine jaJx4a65c_size_8abf5 ?_ _ _ h
    intro r43 σ42 h
    obtain ⟨j, h⟩ := h
    intro j9
    exact jaX11_moveLogsOfCell_39 hQ _ j9 _ _ _ _ _ _ _ _ h
  · have h := h.2
    intro e12
    have h := h e12
    exact hQ _ h
set_option maxRecDepth 100000 in
set_option maxHeartbeats 4000000 in
theorem jfX11_moveLogsOfCell {I : kx_S → Prop} (W : fw_ I [16, 17, 18, 82, 83, 84, 132, 133, 134, 1001, 1002, 1003, 1222]) {Q : kx_S → Prop} (hQ : ∀ y0, I y0 → Q y0) : ∀ (l0 : Nat) (l1 : Nat) (l2 : Int32) (l3 : Int32) (σ : kx_S), I σ → vX11_moveLogsOfCell l0 l1 l2 l3 σ Q := by
  intro l0 l1 l2 l3 σ i
  unfold vX11_moveLogsOfCell
  intro e1
  intro a31 e2
  intro e3
  refine jfJx4a65c_get_915e3 (I := I) (fw_sub W (by decide)) ?_ _ _ _ i
  intro q34 σ33 iσ33
  intro a36 e4
  intro e5
  refine ⟨?_, ?_⟩
  · intro e6
    intro a40 e7
    intro e8
    refine jfJx4a65c_size_8abf5 (I := I) (fw_sub W (by decide)) ?_ _ _ iσ33
    intro r43 σ42 iσ42
    intro j
    exact jfX11_moveLogsOfCell_39 (I := I) (fw_sub W (by decide)) hQ _ _ _ _ _ _ _ _ _ iσ42
  · intro e9
    exact hQ _ iσ33
def vX11_moveLogs_78 (k2 : Nat → Int32 → kx_S → Prop) (Q : kx_S → Prop) (l0 : Nat) (l1 : Int32) (σ : kx_S) : Prop := ∀ v1 : Int32, v1 = l1 + 1 → k2 l0 v1 σ
set_option maxRecDepth 100000 in
set_option maxHeartbeats 4000000 in
theorem jcX11_moveLogs_78 {k2 k2' k2'' : Nat → Int32 → kx_S → Prop} (hk2 : ∀ y0 y1 y2, k2 y0 y1 y2 → k2' y0 y1 y2 → k2'' y0 y1 y2) {Q Q' Q'' : kx_S → Prop} (hQ : ∀ y0, Q y0 → Q' y0 → Q'' y0) : ∀ (l0 : Nat) (l1 : Int32) (σ : kx_S), wX11_moveLogs_78 k2 Q l0 l1 σ → vX11_moveLogs_78 k2' Q' l0 l1 σ → wX11_moveLogs_78 k2'' Q'' l0 l1 σ := by
  intro l0 l1 σ h v
  unfold wX11_moveLogs_78 at h
  unfold vX11_moveLogs_78 at v
  unfold wX11_moveLogs_78
  intro v1 e1
  have h := h v1 e1
  have v := v v1 e1
  exact hk2 _ _ _ h v
set_option maxRecDepth 100000 in
set_option maxHeartbeats 4000000 in
theorem jaX11_moveLogs_78 {k2 k2' : Nat → Int32 → kx_S → Prop} (hk2 : ∀ y0 y1 y2, k2 y0 y1 y2 → k2' y0 y1 y2) {Q Q' : kx_S → Prop} (hQ : ∀ y0, Q y0 → Q' y0) : ∀ (l0 : Nat) (l1 : Int32) (σ : kx_S), wX11_moveLogs_78 k2 Q l0 l1 σ → vX11_moveLogs_78 k2' Q' l0 l1 σ := by
  intro l0 l1 σ h
  unfold wX11_moveLogs_78 at h
  unfold vX11_moveLogs_78
  intro v1 e1
  have h := h v1 e1
  exact hk2 _ _ _ h
set_option maxRecDepth 100000 in
set_option maxHeartbeats 4000000 in
theorem jfX11_moveLogs_78 {I : kx_S → Prop} (W : fw_ I []) {k2 : Nat → Int32 → kx_S → Prop} (hk2 : ∀ y0 y1 y2, I y2 → k2 y0 y1 y2) {Q : kx_S → Prop} (hQ : ∀ y0, I y0 → Q y0) : ∀ (l0 : Nat) (l1 : Int32) (σ : kx_S), I σ → vX11_moveLogs_78 k2 Q l0 l1 σ := by
  intro l0 l1 σ i
  unfold vX11_moveLogs_78
  intro v1 e1
  exact hk2 _ _ _ i
def vX11_moveLogs_55 (k78 : Nat → Int32 → kx_S → Prop) (Q : kx_S → Prop) : Nat → Nat → Int32 → Nat → Int32 → Int32 → kx_S → Prop
  | 0, _, _, _, _, _, _ => True
  | n + 1, l0, l1, l2, l3, l4, σ => ((l4 < 0 → k78 l0 l1 σ) ∧ (¬ (l4 < 0) → ((l3 ≤ 0 → k78 l0 l1 σ) ∧ (¬ (l3 ≤ 0) → xt σ l0 = 13 → vX11_moveLogsOfCell l0 l2 l4 l3 σ (fun σ4 => ∀ v6 : Int32, v6 = l4 + (-1) → vX11_moveLogs_55 k78 Q n l0 l1 l2 l3 v6 σ4)))))
set_option maxRecDepth 100000 in
set_option maxHeartbeats 4000000 in
theorem jcX11_moveLogs_55 {k78 k78' k78'' : Nat → Int32 → kx_S → Prop} (hk78 : ∀ y0 y1 y2, k78 y0 y1 y2 → k78' y0 y1 y2 → k78'' y0 y1 y2) {Q Q' Q'' : kx_S → Prop} (hQ : ∀ y0, Q y0 → Q' y0 → Q'' y0) : ∀ (n : Nat) (l0 : Nat) (l1 : Int32) (l2 : Nat) (l3 : Int32) (l4 : Int32) (σ : kx_S), wX11_moveLogs_55 k78 Q n l0 l1 l2 l3 l4 σ → vX11_moveLogs_55 k78' Q' n l0 l1 l2 l3 l4 σ → wX11_moveLogs_55 k78'' Q'' n l0 l1 l2 l3 l4 σ := by
  intro n
  induction n with
  | zero => intro l0 l1 l2 l3 l4 σ h; exact h.elim
  | succ n ih =>
    intro l0 l1 l2 l3 l4 σ h v
    unfold wX11_moveLogs_55 at h
    unfold vX11_moveLogs_55 at v
    unfold wX11_moveLogs_55
    refine ⟨?_, ?_⟩
    · have h := h.1
      have v := v.1
      intro e1
      have h := h e1
      have v := v e1
      exact hk78 _ _ _ h v
    · have h := h.2
      have v := v.2
      intro e2
      have h := h e2
      have v := v e2
      refine ⟨?_, ?_⟩
      · have h := h.1
        have v := v.1
        intro e3
        have h := h e3
        have v := v e3
        exact hk78 _ _ _ h v
      · have h := h.2
        have v := v.2
        intro e4
        have h := h e4
        have v := v e4
        refine ⟨h.1, ?_⟩
        have v := v h.1
        have h := h.2
        refine jcX11_moveLogsOfCell ?_ _ _ _ _ _ h v
        intro σ4 h v
        intro v6 e6
        have h := h v6 e6
        have v := v v6 e6
        exact ih _ _ _ _ _ _ h v
set_option maxRecDepth 100000 in
set_option maxHeartbeats 4000000 in
theorem jaX11_moveLogs_55 {k78 k78' : Nat → Int32 → kx_S → Prop} (hk78 : ∀ y0 y1 y2, k78 y0 y1 y2 → k78' y0 y1 y2) {Q Q' : kx_S → Prop} (hQ : ∀ y0, Q y0 → Q' y0) : ∀ (n m : Nat) (l0 : Nat) (l1 : Int32) (l2 : Nat) (l3 : Int32) (l4 : Int32) (σ : kx_S), wX11_moveLogs_55 k78 Q n l0 l1 l2 l3 l4 σ → vX11_moveLogs_55 k78' Q' m l0 l1 l2 l3 l4 σ := by
  intro n
  induction n with
  | zero => intro m l0 l1 l2 l3 l4 σ h; exact h.elim
  | succ n ih =>
    intro m l0 l1 l2 l3 l4 σ h
    cases m with
    | zero => exact trivial
    | succ m =>
      unfold wX11_moveLogs_55 at h
      unfold vX11_moveLogs_55
      refine ⟨?_, ?_⟩
      · have h := h.1
        intro e1
        have h := h e1
        exact hk78 _ _ _ h
      · have h := h.2
        intro e2
        have h := h e2
        refine ⟨?_, ?_⟩
        · have h := h.1
          intro e3
          have h := h e3
          exact hk78 _ _ _ h
        · have h := h.2
          intro e4
          have h := h e4
          intro e5
          have h := h.2
          refine jaX11_moveLogsOfCell ?_ _ _ _ _ _ h
          intro σ4 h
          intro v6 e6
          have h := h v6 e6
          exact ih m _ _ _ _ _ _ h
set_option maxRecDepth 100000 in
set_option maxHeartbeats 4000000 in
theorem jfX11_moveLogs_55 {I : kx_S → Prop} (W : fw_ I [16, 17, 18, 82, 83, 84, 132, 133, 134, 1001, 1002, 1003, 1222]) {k78 : Nat → Int32 → kx_S → Prop} (hk78 : ∀ y0 y1 y2, I y2 → k78 y0 y1 y2) {Q : kx_S → Prop} (hQ : ∀ y0, I y0 → Q y0) : ∀ (n : Nat) (l0 : Nat) (l1 : Int32) (l2 : Nat) (l3 : Int32) (l4 : Int32) (σ : kx_S), I σ → vX11_moveLogs_55 k78 Q n l0 l1 l2 l3 l4 σ := by
  intro n
  induction n with
  | zero => intro l0 l1 l2 l3 l4 σ i; exact trivial
  | succ n ih =>
    intro l0 l1 l2 l3 l4 σ i
    unfold vX11_moveLogs_55
    refine ⟨?_, ?_⟩
    · intro e1
      exact hk78 _ _ _ i
    · intro e2
      refine ⟨?_, ?_⟩
      · intro e3
        exact hk78 _ _ _ i
      · intro e4
        intro e5
        refine jfX11_moveLogsOfCell (I := I) (fw_sub W (by decide)) ?_ _ _ _ _ _ i
        intro σ4 iσ4
        intro v6 e6
        exact ih _ _ _ _ _ _ iσ4
def vX11_moveLogs_2 (Q : kx_S → Prop) : Nat → Nat → Int32 → kx_S → Prop
  | 0, _, _, _ => True
  | n + 1, l0, l1, σ => xt σ l0 = 13 → ∀ a8, xr σ 208 l0 = some a8 → xt σ a8 = 1 → vJx4a65c_size_8abf5 a8 σ (fun r11 σ10 => ((r11 ≤ l1 → Q σ10) ∧ (¬ (r11 ≤ l1) → xt σ10 l0 = 13 → ∀ a15, xr σ10 208 l0 = some a15 → xt σ10 a15 = 1 → vJx4a65c_get_915e3 a15 l1 σ10 (fun q18 σ17 => ∀ a20, q18 = some a20 → xt σ17 a20 = 10 → ∀ v23, v23 = (if 6 < ((xi σ17 169 a20) / 100) then 6 else ((xi σ17 169 a20) / 100)) → ∀ a24, xr σ17 163 a20 = some a24 → xt σ17 a24 = 1 → vJx4a65c_size_8abf5 a24 σ17 (fun r27 σ26 => ∀ v29, v29 = r27 - 1 → ∀ j, vX11_moveLogs_55 (vX11_moveLogs_78 (vX11_moveLogs_2 Q n) Q) Q j l0 l1 a20 v23 v29 σ26)))))
set_option maxRecDepth 100000 in
set_option maxHeartbeats 4000000 in
theorem jcX11_moveLogs_2 {Q Q' Q'' : kx_S → Prop} (hQ : ∀ y0, Q y0 → Q' y0 → Q'' y0) : ∀ (n : Nat) (l0 : Nat) (l1 : Int32) (σ : kx_S), wX11_moveLogs_2 Q n l0 l1 σ → vX11_moveLogs_2 Q' n l0 l1 σ → wX11_moveLogs_2 Q'' n l0 l1 σ := by
  intro n
  induction n with
  | zero => intro l0 l1 σ h; exact h.elim
  | succ n ih =>
    intro l0 l1 σ h v
    unfold wX11_moveLogs_2 at h
    unfold vX11_moveLogs_2 at v
    unfold wX11_moveLogs_2
    refine ⟨h.1, ?_⟩
    have v := v h.1
    have h := h.2
    obtain ⟨a8, e2, h⟩ := h
    refine ⟨a8, e2, ?_⟩
    have v := v a8 e2
    refine ⟨h.1, ?_⟩
    have v := v h.1
    have h := h.2
    refine jcJx4a65c_size_8abf5 ?_ _ _ h v
    intro r11 σ10 h v
    refine ⟨?_, ?_⟩
    · have h := h.1
      have v := v.1
      intro e4
      have h := h e4
      have v := v e4
      exact hQ _ h v
    · have h := h.2
      have v := v.2
      intro e5
      have h := h e5
      have v := v e5
      refine ⟨h.1, ?_⟩
      have v := v h.1
      have h := h.2
      obtain ⟨a15, e7, h⟩ := h
      refine ⟨a15, e7, ?_⟩
      have v := v a15 e7
      refine ⟨h.1, ?_⟩
      have v := v h.1
      have h := h.2
      refine jcJx4a65c_get_915e3 ?_ _ _ _ h v
      intro q18 σ17 h v
      obtain ⟨a20, e9, h⟩ := h
      refine ⟨a20, e9, ?_⟩
      have v := v a20 e9
      refine ⟨h.1, ?_⟩
      have v := v h.1
      have h := h.2
      intro v23 e11
      have h := h v23 e11
      have v := v v23 e11
      obtain ⟨a24, e12, h⟩ := h
      refine ⟨a24, e12, ?_⟩
      have v := v a24 e12
      refine ⟨h.1, ?_⟩
      have v := v h.1
      have h := h.2
      refine jcJx4a65c_size_8abf5 ?_ _ _ h v
      intro r27 σ26 h v
      intro v29 e14
      have h := h v29 e14
      have v := v v29 e14
      obtain ⟨j, h⟩ := h
      refine ⟨j, ?_⟩
      have v := v j
      exact jcX11_moveLogs_55 (k78 := wX11_moveLogs_78 (wX11_moveLogs_2 Q n) Q) (k78' := vX11_moveLogs_78 (vX11_moveLogs_2 Q' n) Q') (k78'' := wX11_moveLogs_78 (wX11_moveLogs_2 Q'' n) Q'') (fun _ _ _ h v => jcX11_moveLogs_78 (k2 := wX11_moveLogs_2 Q n) (k2' := vX11_moveLogs_2 Q' n) (k2'' := wX11_moveLogs_2 Q'' n) (fun _ _ _ h v => ih _ _ _ h v) hQ _ _ _ h v) hQ _ _ _ _ _ _ _ h v
set_option maxRecDepth 100000 in
set_option maxHeartbeats 4000000 in
theorem jaX11_moveLogs_2 {Q Q' : kx_S → Prop} (hQ : ∀ y0, Q y0 → Q' y0) : ∀ (n m : Nat) (l0 : Nat) (l1 : Int32) (σ : kx_S), wX11_moveLogs_2 Q n l0 l1 σ → vX11_moveLogs_2 Q' m l0 l1 σ := by
  intro n
  induction n with
  | zero => intro m l0 l1 σ h; exact h.elim
  | succ n ih =>
    intro m l0 l1 σ h
    cases m with
    | zero => exact trivial
    | succ m =>
      unfold wX11_moveLogs_2 at h
      unfold vX11_moveLogs_2
      intro e1
      have h := h.2
      obtain ⟨a8', e2, h⟩ := h
      intro a8 e3
      have x9 : a8' = a8 := Option.some.inj (e2.symm.trans e3)
      rw [x9] at h
      intro e4
      have h := h.2
      refine jaJx4a65c_size_8abf5 ?_ _ _ h
      intro r11 σ10 h
      refine ⟨?_, ?_⟩
      · have h := h.1
        intro e5
        have h := h e5
        exact hQ _ h
      · have h := h.2
        intro e6
        have h := h e6
        intro e7
        have h := h.2
        obtain ⟨a15', e8, h⟩ := h
        intro a15 e9
        have x9 : a15' = a15 := Option.some.inj (e8.symm.trans e9)
        rw [x9] at h
        intro e10
        have h := h.2
        refine jaJx4a65c_get_915e3 ?_ _ _ _ h
        intro q18 σ17 h
        obtain ⟨a20', e11, h⟩ := h
        intro a20 e12
        have x9 : a20' = a20 := Option.some.inj (e11.symm.trans e12)
        rw [x9] at h
        intro e13
        have h := h.2
        intro v23 e14
        have h := h v23 e14
        obtain ⟨a24', e15, h⟩ := h
        intro a24 e16
        have x9 : a24' = a24 := Option.some.inj (e15.symm.trans e16)
        rw [x9] at h
        intro e17
        have h := h.2
        refine jaJx4a65c_size_8abf5 ?_ _ _ h
        intro r27 σ26 h
        intro v29 e18
        have h := h v29 e18
        obtain ⟨j, h⟩ := h
        intro j9
        exact jaX11_moveLogs_55 (k78 := wX11_moveLogs_78 (wX11_moveLogs_2 Q n) Q) (k78' := vX11_moveLogs_78 (vX11_moveLogs_2 Q' m) Q') (fun _ _ _ h => jaX11_moveLogs_78 (k2 := wX11_moveLogs_2 Q n) (k2' := vX11_moveLogs_2 Q' m) (fun _ _ _ h => ih m _ _ _ h) hQ _ _ _ h) hQ _ j9 _ _ _ _ _ _ h
set_option maxRecDepth 100000 in
set_option maxHeartbeats 4000000 in
theorem jfX11_moveLogs_2 {I : kx_S → Prop} (W : fw_ I [16, 17, 18, 82, 83, 84, 132, 133, 134, 1001, 1002, 1003, 1222]) {Q : kx_S → Prop} (hQ : ∀ y0, I y0 → Q y0) : ∀ (n : Nat) (l0 : Nat) (l1 : Int32) (σ : kx_S), I σ → vX11_moveLogs_2 Q n l0 l1 σ := by
  intro n
  induction n with
  | zero => intro l0 l1 σ i; exact trivial
  | succ n ih =>
    intro l0 l1 σ i
    unfold vX11_moveLogs_2
    intro e1
    intro a8 e2
    intro e3
    refine jfJx4a65c_size_8abf5 (I := I) (fw_sub W (by decide)) ?_ _ _ i
    intro r11 σ10 iσ10
    refine ⟨?_, ?_⟩
    · intro e4
      exact hQ _ iσ10
    · intro e5
      intro e6
      intro a15 e7
      intro e8
      refine jfJx4a65c_get_915e3 (I := I) (fw_sub W (by decide)) ?_ _ _ _ iσ10
      intro q18 σ17 iσ17
      intro a20 e9
      intro e10
      intro v23 e11
      intro a24 e12
      intro e13
      refine jfJx4a65c_size_8abf5 (I := I) (fw_sub W (by decide)) ?_ _ _ iσ17
      intro r27 σ26 iσ26
      intro v29 e14
      intro j
      exact jfX11_moveLogs_55 (I := I) (fw_sub W (by decide)) (k78 := vX11_moveLogs_78 (vX11_moveLogs_2 Q n) Q) (fun _ _ _ i => jfX11_moveLogs_78 (I := I) (fw_sub W (by decide)) (k2 := vX11_moveLogs_2 Q n) (fun _ _ _ i => ih _ _ _ i) hQ _ _ _ i) hQ _ _ _ _ _ _ _ iσ26
def vX11_moveLogs (l0 : Nat) (σ : kx_S) (Q : kx_S → Prop) : Prop := ∀ j, vX11_moveLogs_2 Q j l0 0 σ
set_option maxRecDepth 100000 in
set_option maxHeartbeats 4000000 in
theorem jcX11_moveLogs {Q Q' Q'' : kx_S → Prop} (hQ : ∀ y0, Q y0 → Q' y0 → Q'' y0) : ∀ (l0 : Nat) (σ : kx_S), wX11_moveLogs l0 σ Q → vX11_moveLogs l0 σ Q' → wX11_moveLogs l0 σ Q'' := by
  intro l0 σ h v
  unfold wX11_moveLogs at h
  unfold vX11_moveLogs at v
  unfold wX11_moveLogs
  obtain ⟨j, h⟩ := h
  refine ⟨j, ?_⟩
  have v := v j
  exact jcX11_moveLogs_2 hQ _ _ _ _ h v
set_option maxRecDepth 100000 in
set_option maxHeartbeats 4000000 in
theorem jaX11_moveLogs {Q Q' : kx_S → Prop} (hQ : ∀ y0, Q y0 → Q' y0) : ∀ (l0 : Nat) (σ : kx_S), wX11_moveLogs l0 σ Q → vX11_moveLogs l0 σ Q' := by
  intro l0 σ h
  unfold wX11_moveLogs at h
  unfold vX11_moveLogs
  obtain ⟨j, h⟩ := h
  intro j9
  exact jaX11_moveLogs_2 hQ _ j9 _ _ _ h
set_option maxRecDepth 100000 in
set_option maxHeartbeats 4000000 in
theorem jfX11_moveLogs {I : kx_S → Prop} (W : fw_ I [16, 17, 18, 82, 83, 84, 132, 133, 134, 1001, 1002, 1003, 1222]) {Q : kx_S → Prop} (hQ : ∀ y0, I y0 → Q y0) : ∀ (l0 : Nat) (σ : kx_S), I σ → vX11_moveLogs l0 σ Q := by
  intro l0 σ i
  unfold vX11_moveLogs
  intro j
  exact jfX11_moveLogs_2 (I := I) (fw_sub W (by decide)) hQ _ _ _ _ i
def vX11_jamCells_44 (k2 : Nat → Int32 → kx_S → Prop) (Q : kx_S → Prop) (l0 : Nat) (l1 : Int32) (σ : kx_S) : Prop := ∀ v1 : Int32, v1 = l1 + 1 → k2 l0 v1 σ
set_option maxRecDepth 100000 in
set_option maxHeartbeats 4000000 in
theorem jcX11_jamCells_44 {k2 k2' k2'' : Nat → Int32 → kx_S → Prop} (hk2 : ∀ y0 y1 y2, k2 y0 y1 y2 → k2' y0 y1 y2 → k2'' y0 y1 y2) {Q Q' Q'' : kx_S → Prop} (hQ : ∀ y0, Q y0 → Q' y0 → Q'' y0) : ∀ (l0 : Nat) (l1 : Int32) (σ : kx_S), wX11_jamCells_44 k2 Q l0 l1 σ → vX11_jamCells_44 k2' Q' l0 l1 σ → wX11_jamCells_44 k2'' Q'' l0 l1 σ := by
  intro l0 l1 σ h v
  unfold wX11_jamCells_44 at h
  unfold vX11_jamCells_44 at v
  unfold wX11_jamCells_44
  intro v1 e1
  have h := h v1 e1
  have v := v v1 e1
  exact hk2 _ _ _ h v
set_option maxRecDepth 100000 in
set_option maxHeartbeats 4000000 in
theorem jaX11_jamCells_44 {k2 k2' : Nat → Int32 → kx_S → Prop} (hk2 : ∀ y0 y1 y2, k2 y0 y1 y2 → k2' y0 y1 y2) {Q Q' : kx_S → Prop} (hQ : ∀ y0, Q y0 → Q' y0) : ∀ (l0 : Nat) (l1 : Int32) (σ : kx_S), wX11_jamCells_44 k2 Q l0 l1 σ → vX11_jamCells_44 k2' Q' l0 l1 σ := by
  intro l0 l1 σ h
  unfold wX11_jamCells_44 at h
  unfold vX11_jamCells_44
  intro v1 e1
  have h := h v1 e1
  exact hk2 _ _ _ h
set_option maxRecDepth 100000 in
set_option maxHeartbeats 4000000 in
theorem jfX11_jamCells_44 {I : kx_S → Prop} (W : fw_ I []) {k2 : Nat → Int32 → kx_S → Prop} (hk2 : ∀ y0 y1 y2, I y2 → k2 y0 y1 y2) {Q : kx_S → Prop} (hQ : ∀ y0, I y0 → Q y0) : ∀ (l0 : Nat) (l1 : Int32) (σ : kx_S), I σ → vX11_jamCells_44 k2 Q l0 l1 σ := by
  intro l0 l1 σ i
  unfold vX11_jamCells_44
  intro v1 e1
  exact hk2 _ _ _ i
def vX11_jamCells_2 (Q : kx_S → Prop) : Nat → Nat → Int32 → kx_S → Prop
  | 0, _, _, _ => True
  | n + 1, l0, l1, σ => xt σ l0 = 13 → ∀ a3, xr σ 208 l0 = some a3 → xt σ a3 = 1 → vJx4a65c_size_8abf5 a3 σ (fun r6 σ5 => ((r6 ≤ l1 → Q σ5) ∧ (¬ (r6 ≤ l1) → xt σ5 l0 = 13 → ∀ a10, xr σ5 208 l0 = some a10 → xt σ5 a10 = 1 → vJx4a65c_get_915e3 a10 l1 σ5 (fun q13 σ12 => ∀ a15, q13 = some a15 → xt σ12 a15 = 10 → (((xi σ12 162 a15) ≤ (xi σ12 169 a15) → vX11_jamCells_44 (vX11_jamCells_2 Q n) Q l0 l1 σ12) ∧ (¬ ((xi σ12 162 a15) ≤ (xi σ12 169 a15)) → vX8_jamFullCells a15 σ12 (fun σ19 => vX11_jamCells_44 (vX11_jamCells_2 Q n) Q l0 l1 σ19)))))))
set_option maxRecDepth 100000 in
set_option maxHeartbeats 4000000 in
theorem jcX11_jamCells_2 {Q Q' Q'' : kx_S → Prop} (hQ : ∀ y0, Q y0 → Q' y0 → Q'' y0) : ∀ (n : Nat) (l0 : Nat) (l1 : Int32) (σ : kx_S), wX11_jamCells_2 Q n l0 l1 σ → vX11_jamCells_2 Q' n l0 l1 σ → wX11_jamCells_2 Q'' n l0 l1 σ := by
  intro n
  induction n with
  | zero => intro l0 l1 σ h; exact h.elim
  | succ n ih =>
    intro l0 l1 σ h v
    unfold wX11_jamCells_2 at h
    unfold vX11_jamCells_2 at v
    unfold wX11_jamCells_2
    refine ⟨h.1, ?_⟩
    have v := v h.1
    have h := h.2
    obtain ⟨a3, e2, h⟩ := h
    refine ⟨a3, e2, ?_⟩
    have v := v a3 e2
    refine ⟨h.1, ?_⟩
    have v := v h.1
    have h := h.2
    refine jcJx4a65c_size_8abf5 ?_ _ _ h v
    intro r6 σ5 h v
    refine ⟨?_, ?_⟩
    · have h := h.1
      have v := v.1
      intro e4
      have h := h e4
      have v := v e4
      exact hQ _ h v
    · have h := h.2
      have v := v.2
      intro e5
      have h := h e5
      have v := v e5
      refine ⟨h.1, ?_⟩
      have v := v h.1
      have h := h.2
      obtain ⟨a10, e7, h⟩ := h
      refine ⟨a10, e7, ?_⟩
      have v := v a10 e7
      refine ⟨h.1, ?_⟩
      have v := v h.1
      have h := h.2
      refine jcJx4a65c_get_915e3 ?_ _ _ _ h v
      intro q13 σ12 h v
      obtain ⟨a15, e9, h⟩ := h
      refine ⟨a15, e9, ?_⟩
      have v := v a15 e9
      refine ⟨h.1, ?_⟩
      have v := v h.1
      have h := h.2
      refine ⟨?_, ?_⟩
      · have h := h.1
        have v := v.1
        intro e11
        have h := h e11
        have v := v e11
        exact jcX11_jamCells_44 (k2 := wX11_jamCells_2 Q n) (k2' := vX11_jamCells_2 Q' n) (k2'' := wX11_jamCells_2 Q'' n) (fun _ _ _ h v => ih _ _ _ h v) hQ _ _ _ h v
      · have h := h.2
        have v := v.2
        intro e12
        have h := h e12
        have v := v e12
        refine jcX8_jamFullCells ?_ _ _ h v
        intro σ19 h v
        exact jcX11_jamCells_44 (k2 := wX11_jamCells_2 Q n) (k2' := vX11_jamCells_2 Q' n) (k2'' := wX11_jamCells_2 Q'' n) (fun _ _ _ h v => ih _ _ _ h v) hQ _ _ _ h v
set_option maxRecDepth 100000 in
set_option maxHeartbeats 4000000 in
theorem jaX11_jamCells_2 {Q Q' : kx_S → Prop} (hQ : ∀ y0, Q y0 → Q' y0) : ∀ (n m : Nat) (l0 : Nat) (l1 : Int32) (σ : kx_S), wX11_jamCells_2 Q n l0 l1 σ → vX11_jamCells_2 Q' m l0 l1 σ := by
  intro n
  induction n with
  | zero => intro m l0 l1 σ h; exact h.elim
  | succ n ih =>
    intro m l0 l1 σ h
    cases m with
    | zero => exact trivial
    | succ m =>
      unfold wX11_jamCells_2 at h
      unfold vX11_jamCells_2
      intro e1
      have h := h.2
      obtain ⟨a3', e2, h⟩ := h
      intro a3 e3
      have x9 : a3' = a3 := Option.some.inj (e2.symm.trans e3)
      rw [x9] at h
      intro e4
      have h := h.2
      refine jaJx4a65c_size_8abf5 ?_ _ _ h
      intro r6 σ5 h
      refine ⟨?_, ?_⟩
      · have h := h.1
        intro e5
        have h := h e5
        exact hQ _ h
      · have h := h.2
        intro e6
        have h := h e6
        intro e7
        have h := h.2
        obtain ⟨a10', e8, h⟩ := h
        intro a10 e9
        have x9 : a10' = a10 := Option.some.inj (e8.symm.trans e9)
        rw [x9] at h
        intro e10
        have h := h.2
        refine jaJx4a65c_get_915e3 ?_ _ _ _ h
        intro q13 σ12 h
        obtain ⟨a15', e11, h⟩ := h
        intro a15 e12
        have x9 : a15' = a15 := Option.some.inj (e11.symm.trans e12)
        rw [x9] at h
        intro e13
        have h := h.2
        refine ⟨?_, ?_⟩
        · have h := h.1
          intro e14
          have h := h e14
          exact jaX11_jamCells_44 (k2 := wX11_jamCells_2 Q n) (k2' := vX11_jamCells_2 Q' m) (fun _ _ _ h => ih m _ _ _ h) hQ _ _ _ h
        · have h := h.2
          intro e15
          have h := h e15
          refine jaX8_jamFullCells ?_ _ _ h
          intro σ19 h
          exact jaX11_jamCells_44 (k2 := wX11_jamCells_2 Q n) (k2' := vX11_jamCells_2 Q' m) (fun _ _ _ h => ih m _ _ _ h) hQ _ _ _ h
set_option maxRecDepth 100000 in
set_option maxHeartbeats 4000000 in
theorem jfX11_jamCells_2 {I : kx_S → Prop} (W : fw_ I [50]) {Q : kx_S → Prop} (hQ : ∀ y0, I y0 → Q y0) : ∀ (n : Nat) (l0 : Nat) (l1 : Int32) (σ : kx_S), I σ → vX11_jamCells_2 Q n l0 l1 σ := by
  intro n
  induction n with
  | zero => intro l0 l1 σ i; exact trivial
  | succ n ih =>
    intro l0 l1 σ i
    unfold vX11_jamCells_2
    intro e1
    intro a3 e2
    intro e3
    refine jfJx4a65c_size_8abf5 (I := I) (fw_sub W (by decide)) ?_ _ _ i
    intro r6 σ5 iσ5
    refine ⟨?_, ?_⟩
    · intro e4
      exact hQ _ iσ5
    · intro e5
      intro e6
      intro a10 e7
      intro e8
      refine jfJx4a65c_get_915e3 (I := I) (fw_sub W (by decide)) ?_ _ _ _ iσ5
      intro q13 σ12 iσ12
      intro a15 e9
      intro e10
      refine ⟨?_, ?_⟩
      · intro e11
        exact jfX11_jamCells_44 (I := I) (fw_sub W (by decide)) (k2 := vX11_jamCells_2 Q n) (fun _ _ _ i => ih _ _ _ i) hQ _ _ _ iσ12
      · intro e12
        refine jfX8_jamFullCells (I := I) (fw_sub W (by decide)) ?_ _ _ iσ12
        intro σ19 iσ19
        exact jfX11_jamCells_44 (I := I) (fw_sub W (by decide)) (k2 := vX11_jamCells_2 Q n) (fun _ _ _ i => ih _ _ _ i) hQ _ _ _ iσ19
def vX11_jamCells (l0 : Nat) (σ : kx_S) (Q : kx_S → Prop) : Prop := ∀ j, vX11_jamCells_2 Q j l0 0 σ
set_option maxRecDepth 100000 in
set_option maxHeartbeats 4000000 in
theorem jcX11_jamCells {Q Q' Q'' : kx_S → Prop} (hQ : ∀ y0, Q y0 → Q' y0 → Q'' y0) : ∀ (l0 : Nat) (σ : kx_S), wX11_jamCells l0 σ Q → vX11_jamCells l0 σ Q' → wX11_jamCells l0 σ Q'' := by
  intro l0 σ h v
  unfold wX11_jamCells at h
  unfold vX11_jamCells at v
  unfold wX11_jamCells
  obtain ⟨j, h⟩ := h
  refine ⟨j, ?_⟩
  have v := v j
  exact jcX11_jamCells_2 hQ _ _ _ _ h v
set_option maxRecDepth 100000 in
set_option maxHeartbeats 4000000 in
theorem jaX11_jamCells {Q Q' : kx_S → Prop} (hQ : ∀ y0, Q y0 → Q' y0) : ∀ (l0 : Nat) (σ : kx_S), wX11_jamCells l0 σ Q → vX11_jamCells l0 σ Q' := by
  intro l0 σ h
  unfold wX11_jamCells at h
  unfold vX11_jamCells
  obtain ⟨j, h⟩ := h
  intro j9
  exact jaX11_jamCells_2 hQ _ j9 _ _ _ h
set_option maxRecDepth 100000 in
set_option maxHeartbeats 4000000 in
theorem jfX11_jamCells {I : kx_S → Prop} (W : fw_ I [50]) {Q : kx_S → Prop} (hQ : ∀ y0, I y0 → Q y0) : ∀ (l0 : Nat) (σ : kx_S), I σ → vX11_jamCells l0 σ Q := by
  intro l0 σ i
  unfold vX11_jamCells
  intro j
  exact jfX11_jamCells_2 (I := I) (fw_sub W (by decide)) hQ _ _ _ _ i
def vX11_freeJams_58 (k2 : Nat → Int32 → kx_S → Prop) (Q : kx_S → Prop) (l0 : Nat) (l1 : Int32) (σ : kx_S) : Prop := ∀ v1 : Int32, v1 = l1 + 1 → k2 l0 v1 σ
set_option maxRecDepth 100000 in
set_option maxHeartbeats 4000000 in
theorem jcX11_freeJams_58 {k2 k2' k2'' : Nat → Int32 → kx_S → Prop} (hk2 : ∀ y0 y1 y2, k2 y0 y1 y2 → k2' y0 y1 y2 → k2'' y0 y1 y2) {Q Q' Q'' : kx_S → Prop} (hQ : ∀ y0, Q y0 → Q' y0 → Q'' y0) : ∀ (l0 : Nat) (l1 : Int32) (σ : kx_S), wX11_freeJams_58 k2 Q l0 l1 σ → vX11_freeJams_58 k2' Q' l0 l1 σ → wX11_freeJams_58 k2'' Q'' l0 l1 σ := by
  intro l0 l1 σ h v
  unfold wX11_freeJams_58 at h
  unfold vX11_freeJams_58 at v
  unfold wX11_freeJams_58
  intro v1 e1
  have h := h v1 e1
  have v := v v1 e1
  exact hk2 _ _ _ h v
set_option maxRecDepth 100000 in
set_option maxHeartbeats 4000000 in
theorem jaX11_freeJams_58 {k2 k2' : Nat → Int32 → kx_S → Prop} (hk2 : ∀ y0 y1 y2, k2 y0 y1 y2 → k2' y0 y1 y2) {Q Q' : kx_S → Prop} (hQ : ∀ y0, Q y0 → Q' y0) : ∀ (l0 : Nat) (l1 : Int32) (σ : kx_S), wX11_freeJams_58 k2 Q l0 l1 σ → vX11_freeJams_58 k2' Q' l0 l1 σ := by
  intro l0 l1 σ h
  unfold wX11_freeJams_58 at h
  unfold vX11_freeJams_58
  intro v1 e1
  have h := h v1 e1
  exact hk2 _ _ _ h
set_option maxRecDepth 100000 in
set_option maxHeartbeats 4000000 in
theorem jfX11_freeJams_58 {I : kx_S → Prop} (W : fw_ I []) {k2 : Nat → Int32 → kx_S → Prop} (hk2 : ∀ y0 y1 y2, I y2 → k2 y0 y1 y2) {Q : kx_S → Prop} (hQ : ∀ y0, I y0 → Q y0) : ∀ (l0 : Nat) (l1 : Int32) (σ : kx_S), I σ → vX11_freeJams_58 k2 Q l0 l1 σ := by
  intro l0 l1 σ i
  unfold vX11_freeJams_58
  intro v1 e1
  exact hk2 _ _ _ i
def vX11_freeJams_2 (Q : kx_S → Prop) : Nat → Nat → Int32 → kx_S → Prop
  | 0, _, _, _ => True
  | n + 1, l0, l1, σ => xt σ l0 = 13 → ∀ a3, xr σ 211 l0 = some a3 → xt σ a3 = 1 → vJx4a65c_size_8abf5 a3 σ (fun r6 σ5 => ((r6 ≤ l1 → Q σ5) ∧ (¬ (r6 ≤ l1) → xt σ5 l0 = 13 → ∀ a10, xr σ5 211 l0 = some a10 → xt σ5 a10 = 1 → vJx4a65c_get_915e3 a10 l1 σ5 (fun q13 σ12 => ∀ a15, q13 = some a15 → xt σ12 a15 = 4 → xt σ12 l0 = 13 → (((xi σ12 217 l0) < (xi σ12 65 a15) → vX11_freeJams_58 (vX11_freeJams_2 Q n) Q l0 l1 σ12) ∧ (¬ ((xi σ12 217 l0) < (xi σ12 65 a15)) → ∀ a20, xr σ12 64 a15 = some a20 → xt σ12 a20 = 10 → vX8_freesLowestJam a20 σ12 (fun r23 σ22 => ((r23 = 0 → vX11_freeJams_58 (vX11_freeJams_2 Q n) Q l0 l1 σ22) ∧ (¬ (r23 = 0) → xt σ22 l0 = 13 → xt σ22 a15 = 4 → vX2_rest a15 (xi σ22 217 l0) σ22 (fun σ27 => vX11_freeJams_58 (vX11_freeJams_2 Q n) Q l0 l1 σ27))))))))))
set_option maxRecDepth 100000 in
set_option maxHeartbeats 4000000 in
theorem jcX11_freeJams_2 {Q Q' Q'' : kx_S → Prop} (hQ : ∀ y0, Q y0 → Q' y0 → Q'' y0) : ∀ (n : Nat) (l0 : Nat) (l1 : Int32) (σ : kx_S), wX11_freeJams_2 Q n l0 l1 σ → vX11_freeJams_2 Q' n l0 l1 σ → wX11_freeJams_2 Q'' n l0 l1 σ := by
  intro n
  induction n with
  | zero => intro l0 l1 σ h; exact h.elim
  | succ n ih =>
    intro l0 l1 σ h v
    unfold wX11_freeJams_2 at h
    unfold vX11_freeJams_2 at v
    unfold wX11_freeJams_2
    refine ⟨h.1, ?_⟩
    have v := v h.1
    have h := h.2
    obtain ⟨a3, e2, h⟩ := h
    refine ⟨a3, e2, ?_⟩
    have v := v a3 e2
    refine ⟨h.1, ?_⟩
    have v := v h.1
    have h := h.2
    refine jcJx4a65c_size_8abf5 ?_ _ _ h v
    intro r6 σ5 h v
    refine ⟨?_, ?_⟩
    · have h := h.1
      have v := v.1
      intro e4
      have h := h e4
      have v := v e4
      exact hQ _ h v
    · have h := h.2
      have v := v.2
      intro e5
      have h := h e5
      have v := v e5
      refine ⟨h.1, ?_⟩
      have v := v h.1
      have h := h.2
      obtain ⟨a10, e7, h⟩ := h
      refine ⟨a10, e7, ?_⟩
      have v := v a10 e7
      refine ⟨h.1, ?_⟩
      have v := v h.1
      have h := h.2
      refine jcJx4a65c_get_915e3 ?_ _ _ _ h v
      intro q13 σ12 h v
      obtain ⟨a15, e9, h⟩ := h
      refine ⟨a15, e9, ?_⟩
      have v := v a15 e9
      refine ⟨h.1, ?_⟩
      have v := v h.1
      have h := h.2
      refine ⟨h.1, ?_⟩
      have v := v h.1
      have h := h.2
      refine ⟨?_, ?_⟩
      · have h := h.1
        have v := v.1
        intro e12
        have h := h e12
        have v := v e12
        exact jcX11_freeJams_58 (k2 := wX11_freeJams_2 Q n) (k2' := vX11_freeJams_2 Q' n) (k2'' := wX11_freeJams_2 Q'' n) (fun _ _ _ h v => ih _ _ _ h v) hQ _ _ _ h v
      · have h := h.2
        have v := v.2
        intro e13
        have h := h e13
        have v := v e13
        obtain ⟨a20, e14, h⟩ := h
        refine ⟨a20, e14, ?_⟩
        have v := v a20 e14
        refine ⟨h.1, ?_⟩
        have v := v h.1
        have h := h.2
        refine jcX8_freesLowestJam ?_ _ _ h v
        intro r23 σ22 h v
        refine ⟨?_, ?_⟩
        · have h := h.1
          have v := v.1
          intro e16
          have h := h e16
          have v := v e16
          exact jcX11_freeJams_58 (k2 := wX11_freeJams_2 Q n) (k2' := vX11_freeJams_2 Q' n) (k2'' := wX11_freeJams_2 Q'' n) (fun _ _ _ h v => ih _ _ _ h v) hQ _ _ _ h v
        · have h := h.2
          have v := v.2
          intro e17
          have h := h e17
          have v := v e17
          refine ⟨h.1, ?_⟩
          have v := v h.1
          have h := h.2
          refine ⟨h.1, ?_⟩
          have v := v h.1
          have h := h.2
          refine jcX2_rest ?_ _ _ _ h v
          intro σ27 h v
          exact jcX11_freeJams_58 (k2 := wX11_freeJams_2 Q n) (k2' := vX11_freeJams_2 Q' n) (k2'' := wX11_freeJams_2 Q'' n) (fun _ _ _ h v => ih _ _ _ h v) hQ _ _ _ h v
set_option maxRecDepth 100000 in
set_option maxHeartbeats 4000000 in
theorem jaX11_freeJams_2 {Q Q' : kx_S → Prop} (hQ : ∀ y0, Q y0 → Q' y0) : ∀ (n m : Nat) (l0 : Nat) (l1 : Int32) (σ : kx_S), wX11_freeJams_2 Q n l0 l1 σ → vX11_freeJams_2 Q' m l0 l1 σ := by
  intro n
  induction n with
  | zero => intro m l0 l1 σ h; exact h.elim
  | succ n ih =>
    intro m l0 l1 σ h
    cases m with
    | zero => exact trivial
    | succ m =>
      unfold wX11_freeJams_2 at h
      unfold vX11_freeJams_2
      intro e1
      have h := h.2
      obtain ⟨a3', e2, h⟩ := h
      intro a3 e3
      have x9 : a3' = a3 := Option.some.inj (e2.symm.trans e3)
      rw [x9] at h
      intro e4
      have h := h.2
      refine jaJx4a65c_size_8abf5 ?_ _ _ h
      intro r6 σ5 h
      refine ⟨?_, ?_⟩
      · have h := h.1
        intro e5
        have h := h e5
        exact hQ _ h
      · have h := h.2
        intro e6
        have h := h e6
        intro e7
        have h := h.2
        obtain ⟨a10', e8, h⟩ := h
        intro a10 e9
        have x9 : a10' = a10 := Option.some.inj (e8.symm.trans e9)
        rw [x9] at h
        intro e10
        have h := h.2
        refine jaJx4a65c_get_915e3 ?_ _ _ _ h
        intro q13 σ12 h
        obtain ⟨a15', e11, h⟩ := h
        intro a15 e12
        have x9 : a15' = a15 := Option.some.inj (e11.symm.trans e12)
        rw [x9] at h
        intro e13
        have h := h.2
        intro e14
        have h := h.2
        refine ⟨?_, ?_⟩
        · have h := h.1
          intro e15
          have h := h e15
          exact jaX11_freeJams_58 (k2 := wX11_freeJams_2 Q n) (k2' := vX11_freeJams_2 Q' m) (fun _ _ _ h => ih m _ _ _ h) hQ _ _ _ h
        · have h := h.2
          intro e16
          have h := h e16
          obtain ⟨a20', e17, h⟩ := h
          intro a20 e18
          have x9 : a20' = a20 := Option.some.inj (e17.symm.trans e18)
          rw [x9] at h
          intro e19
          have h := h.2
          refine jaX8_freesLowestJam ?_ _ _ h
          intro r23 σ22 h
          refine ⟨?_, ?_⟩
          · have h := h.1
            intro e20
            have h := h e20
            exact jaX11_freeJams_58 (k2 := wX11_freeJams_2 Q n) (k2' := vX11_freeJams_2 Q' m) (fun _ _ _ h => ih m _ _ _ h) hQ _ _ _ h
          · have h := h.2
            intro e21
            have h := h e21
            intro e22
            have h := h.2
            intro e23
            have h := h.2
            refine jaX2_rest ?_ _ _ _ h
            intro σ27 h
            exact jaX11_freeJams_58 (k2 := wX11_freeJams_2 Q n) (k2' := vX11_freeJams_2 Q' m) (fun _ _ _ h => ih m _ _ _ h) hQ _ _ _ h
set_option maxRecDepth 100000 in
set_option maxHeartbeats 4000000 in
theorem jfX11_freeJams_2 {I : kx_S → Prop} (W : fw_ I [50, 51, 65]) {Q : kx_S → Prop} (hQ : ∀ y0, I y0 → Q y0) : ∀ (n : Nat) (l0 : Nat) (l1 : Int32) (σ : kx_S), I σ → vX11_freeJams_2 Q n l0 l1 σ := by
  intro n
  induction n with
  | zero => intro l0 l1 σ i; exact trivial
  | succ n ih =>
    intro l0 l1 σ i
    unfold vX11_freeJams_2
    intro e1
    intro a3 e2
    intro e3
    refine jfJx4a65c_size_8abf5 (I := I) (fw_sub W (by decide)) ?_ _ _ i
    intro r6 σ5 iσ5
    refine ⟨?_, ?_⟩
    · intro e4
      exact hQ _ iσ5
    · intro e5
      intro e6
      intro a10 e7
      intro e8
      refine jfJx4a65c_get_915e3 (I := I) (fw_sub W (by decide)) ?_ _ _ _ iσ5
      intro q13 σ12 iσ12
      intro a15 e9
      intro e10
      intro e11
      refine ⟨?_, ?_⟩
      · intro e12
        exact jfX11_freeJams_58 (I := I) (fw_sub W (by decide)) (k2 := vX11_freeJams_2 Q n) (fun _ _ _ i => ih _ _ _ i) hQ _ _ _ iσ12
      · intro e13
        intro a20 e14
        intro e15
        refine jfX8_freesLowestJam (I := I) (fw_sub W (by decide)) ?_ _ _ iσ12
        intro r23 σ22 iσ22
        refine ⟨?_, ?_⟩
        · intro e16
          exact jfX11_freeJams_58 (I := I) (fw_sub W (by decide)) (k2 := vX11_freeJams_2 Q n) (fun _ _ _ i => ih _ _ _ i) hQ _ _ _ iσ22
        · intro e17
          intro e18
          intro e19
          refine jfX2_rest (I := I) (fw_sub W (by decide)) ?_ _ _ _ iσ22
          intro σ27 iσ27
          exact jfX11_freeJams_58 (I := I) (fw_sub W (by decide)) (k2 := vX11_freeJams_2 Q n) (fun _ _ _ i => ih _ _ _ i) hQ _ _ _ iσ27

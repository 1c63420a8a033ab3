def vX11_inCell (l0 : Nat) (l1 : Int32) (l2 : Int32) (l3 : Int32) (σ : kx_S) (Q : Int32 → kx_S → Prop) (QX : String → kx_S → Prop) : Prop := xt σ l0 = 13 → vX11_reachAt l0 l1 σ (fun b2 σ1 => vX11_checkCell b2 l2 σ1 (fun σ4 => xt σ4 b2 = 10 → ∀ a6, xr σ4 163 b2 = some a6 → xt σ4 a6 = 1 → vJx4a65c_get_915e3 a6 l2 σ4 (fun q9 σ8 => ∀ a11, q9 = some a11 → xt σ8 a11 = 3 → ∀ a14, xr σ8 49 a11 = some a14 → vX11_numberAt a14 l3 σ8 (fun r17 σ16 => Q r17 σ16))) QX) QX
set_option maxRecDepth 100000 in
set_option maxHeartbeats 4000000 in
theorem jcX11_inCell {Q Q' Q'' : Int32 → kx_S → Prop} (hQ : ∀ y0 y1, Q y0 y1 → Q' y0 y1 → Q'' y0 y1) {QX QX' QX'' : String → kx_S → Prop} (hX : ∀ y0 y1, QX y0 y1 → QX' y0 y1 → QX'' y0 y1) : ∀ (l0 : Nat) (l1 : Int32) (l2 : Int32) (l3 : Int32) (σ : kx_S), wX11_inCell l0 l1 l2 l3 σ Q QX → vX11_inCell l0 l1 l2 l3 σ Q' QX' → wX11_inCell l0 l1 l2 l3 σ Q'' QX'' := by
  intro l0 l1 l2 l3 σ h v
  unfold wX11_inCell at h
  unfold vX11_inCell at v
  unfold wX11_inCell
  refine ⟨h.1, ?_⟩
  have v := v h.1
  have h := h.2
  refine jcX11_reachAt ?_ hX _ _ _ h v
  intro b2 σ1 h v
  refine jcX11_checkCell ?_ hX _ _ _ h v
  intro σ4 h v
  refine ⟨h.1, ?_⟩
  have v := v h.1
  have h := h.2
  obtain ⟨a6, e3, h⟩ := h
  refine ⟨a6, e3, ?_⟩
  have v := v a6 e3
  refine ⟨h.1, ?_⟩
  have v := v h.1
  have h := h.2
  refine jcJx4a65c_get_915e3 ?_ _ _ _ h v
  intro q9 σ8 h v
  obtain ⟨a11, e5, h⟩ := h
  refine ⟨a11, e5, ?_⟩
  have v := v a11 e5
  refine ⟨h.1, ?_⟩
  have v := v h.1
  have h := h.2
  obtain ⟨a14, e7, h⟩ := h
  refine ⟨a14, e7, ?_⟩
  have v := v a14 e7
  refine jcX11_numberAt ?_ _ _ _ h v
  intro r17 σ16 h v
  exact hQ _ _ h v
set_option maxRecDepth 100000 in
set_option maxHeartbeats 4000000 in
theorem jaX11_inCell {Q Q' : Int32 → kx_S → Prop} (hQ : ∀ y0 y1, Q y0 y1 → Q' y0 y1) {QX QX' : String → kx_S → Prop} (hX : ∀ y0 y1, QX y0 y1 → QX' y0 y1) : ∀ (l0 : Nat) (l1 : Int32) (l2 : Int32) (l3 : Int32) (σ : kx_S), wX11_inCell l0 l1 l2 l3 σ Q QX → vX11_inCell l0 l1 l2 l3 σ Q' QX' := by
  intro l0 l1 l2 l3 σ h
  unfold wX11_inCell at h
  unfold vX11_inCell
  intro e1
  have h := h.2
  refine jaX11_reachAt ?_ hX _ _ _ h
  intro b2 σ1 h
  refine jaX11_checkCell ?_ hX _ _ _ h
  intro σ4 h
  intro e2
  have h := h.2
  obtain ⟨a6', e3, h⟩ := h
  intro a6 e4
  have x9 : a6' = a6 := Option.some.inj (e3.symm.trans e4)
  rw [x9] at h
  intro e5
  have h := h.2
  refine jaJx4a65c_get_915e3 ?_ _ _ _ h
  intro q9 σ8 h
  obtain ⟨a11', e6, h⟩ := h
  intro a11 e7
  have x9 : a11' = a11 := Option.some.inj (e6.symm.trans e7)
  rw [x9] at h
  intro e8
  have h := h.2
  obtain ⟨a14', e9, h⟩ := h
  intro a14 e10
  have x9 : a14' = a14 := Option.some.inj (e9.symm.trans e10)
  rw [x9] at h
  refine jaX11_numberAt ?_ _ _ _ h
  intro r17 σ16 h
  exact hQ _ _ h
set_option maxRecDepth 100000 in
set_option maxHeartbeats 4000000 in
theorem jfX11_inCell {I : kx_S → Prop} (W : fw_ I [1005]) {Q : Int32 → kx_S → Prop} (hQ : ∀ y0 y1, I y1 → Q y0 y1) {QX : String → kx_S → Prop} (hX : ∀ y0 y1, I y1 → QX y0 y1) : ∀ (l0 : Nat) (l1 : Int32) (l2 : Int32) (l3 : Int32) (σ : kx_S), I σ → vX11_inCell l0 l1 l2 l3 σ Q QX := by
  intro l0 l1 l2 l3 σ i
  unfold vX11_inCell
  intro e1
  refine jfX11_reachAt (I := I) (fw_sub W (by decide)) ?_ hX _ _ _ i
  intro b2 σ1 iσ1
  refine jfX11_checkCell (I := I) (fw_sub W (by decide)) ?_ hX _ _ _ iσ1
  intro σ4 iσ4
  intro e2
  intro a6 e3
  intro e4
  refine jfJx4a65c_get_915e3 (I := I) (fw_sub W (by decide)) ?_ _ _ _ iσ4
  intro q9 σ8 iσ8
  intro a11 e5
  intro e6
  intro a14 e7
  refine jfX11_numberAt (I := I) (fw_sub W (by decide)) ?_ _ _ _ iσ8
  intro r17 σ16 iσ16
  exact hQ _ _ iσ16
def vX11_heap (l0 : Nat) (l1 : Int32) (l2 : Int32) (σ : kx_S) (Q : Int32 → kx_S → Prop) (QX : String → kx_S → Prop) : Prop := xt σ l0 = 13 → vX11_reachAt l0 l1 σ (fun b2 σ1 => xt σ1 b2 = 10 → ((∀ a6, xr σ1 172 b2 = some a6 → ((¬ l2 = (-1) → ∀ a8, xr σ1 172 b2 = some a8 → xt σ1 a8 = 2 → ∀ a11, xr σ1 32 a8 = some a11 → vX11_numberAt a11 l2 σ1 (fun r14 σ13 => Q r14 σ13)) ∧ (l2 = (-1) → ∀ a15, xr σ1 172 b2 = some a15 → xt σ1 a15 = 2 → ∀ a18, xr σ1 32 a15 = some a18 → xt σ1 a18 = 1 → vJx4a65c_size_8abf5 a18 σ1 (fun r21 σ20 => Q r21 σ20)))) ∧ (xr σ1 172 b2 = none → Q (-1) σ1))) QX
set_option maxRecDepth 100000 in
set_option maxHeartbeats 4000000 in
theorem jcX11_heap {Q Q' Q'' : Int32 → kx_S → Prop} (hQ : ∀ y0 y1, Q y0 y1 → Q' y0 y1 → Q'' y0 y1) {QX QX' QX'' : String → kx_S → Prop} (hX : ∀ y0 y1, QX y0 y1 → QX' y0 y1 → QX'' y0 y1) : ∀ (l0 : Nat) (l1 : Int32) (l2 : Int32) (σ : kx_S), wX11_heap l0 l1 l2 σ Q QX → vX11_heap l0 l1 l2 σ Q' QX' → wX11_heap l0 l1 l2 σ Q'' QX'' := by
  intro l0 l1 l2 σ h v
  unfold wX11_heap at h
  unfold vX11_heap at v
  unfold wX11_heap
  refine ⟨h.1, ?_⟩
  have v := v h.1
  have h := h.2
  refine jcX11_reachAt ?_ hX _ _ _ h v
  intro b2 σ1 h v
  refine ⟨h.1, ?_⟩
  have v := v h.1
  have h := h.2
  refine ⟨?_, ?_⟩
  · have h := h.1
    have v := v.1
    intro a6 e3
    have h := h a6 e3
    have v := v a6 e3
    refine ⟨?_, ?_⟩
    · have h := h.1
      have v := v.1
      intro e4
      have h := h e4
      have v := v e4
      obtain ⟨a8, e5, h⟩ := h
      refine ⟨a8, e5, ?_⟩
      have v := v a8 e5
      refine ⟨h.1, ?_⟩
      have v := v h.1
      have h := h.2
      obtain ⟨a11, e7, h⟩ := h
      refine ⟨a11, e7, ?_⟩
      have v := v a11 e7
      refine jcX11_numberAt ?_ _ _ _ h v
      intro r14 σ13 h v
      exact hQ _ _ h v
    · have h := h.2
      have v := v.2
      intro e8
      have h := h e8
      have v := v e8
      obtain ⟨a15, e9, h⟩ := h
      refine ⟨a15, e9, ?_⟩
      have v := v a15 e9
      refine ⟨h.1, ?_⟩
      have v := v h.1
      have h := h.2
      obtain ⟨a18, e11, h⟩ := h
      refine ⟨a18, e11, ?_⟩
      have v := v a18 e11
      refine ⟨h.1, ?_⟩
      have v := v h.1
      have h := h.2
      refine jcJx4a65c_size_8abf5 ?_ _ _ h v
      intro r21 σ20 h v
      exact hQ _ _ h v
  · have h := h.2
    have v := v.2
    intro e13
    have h := h e13
    have v := v e13
    exact hQ _ _ h v
set_option maxRecDepth 100000 in
set_option maxHeartbeats 4000000 in
theorem jaX11_heap {Q Q' : Int32 → kx_S → Prop} (hQ : ∀ y0 y1, Q y0 y1 → Q' y0 y1) {QX QX' : String → kx_S → Prop} (hX : ∀ y0 y1, QX y0 y1 → QX' y0 y1) : ∀ (l0 : Nat) (l1 : Int32) (l2 : Int32) (σ : kx_S), wX11_heap l0 l1 l2 σ Q QX → vX11_heap l0 l1 l2 σ Q' QX' := by
  intro l0 l1 l2 σ h
  unfold wX11_heap at h
  unfold vX11_heap
  intro e1
  have h := h.2
  refine jaX11_reachAt ?_ hX _ _ _ h
  intro b2 σ1 h
  intro e2
  have h := h.2
  refine ⟨?_, ?_⟩
  · have h := h.1
    intro a6 e3
    have h := h a6 e3
    refine ⟨?_, ?_⟩
    · have h := h.1
      intro e4
      have h := h e4
      obtain ⟨a8', e5, h⟩ := h
      intro a8 e6
      have x9 : a8' = a8 := Option.some.inj (e5.symm.trans e6)
      rw [x9] at h
      intro e7
      have h := h.2
      obtain ⟨a11', e8, h⟩ := h
      intro a11 e9
      have x9 : a11' = a11 := Option.some.inj (e8.symm.trans e9)
      rw [x9] at h
      refine jaX11_numberAt ?_ _ _ _ h
      intro r14 σ13 h
      exact hQ _ _ h
    · have h := h.2
      intro e10
      have h := h e10
      obtain ⟨a15', e11, h⟩ := h
      intro a15 e12
      have x9 : a15' = a15 := Option.some.inj (e11.symm.trans e12)
      rw [x9] at h
      intro e13
      have h := h.2
      obtain ⟨a18', e14, h⟩ := h
      intro a18 e15
      have x9 : a18' = a18 := Option.some.inj (e14.symm.trans e15)
      rw [x9] at h
      intro e16
      have h := h.2
      refine jaJx4a65c_size_8abf5 ?_ _ _ h
      intro r21 σ20 h
      exact hQ _ _ h
  · have h := h.2
    intro e17
    have h := h e17
    exact hQ _ _ h
set_option maxRecDepth 100000 in
set_option maxHeartbeats 4000000 in
theorem jfX11_heap {I : kx_S → Prop} (W : fw_ I [1005]) {Q : Int32 → kx_S → Prop} (hQ : ∀ y0 y1, I y1 → Q y0 y1) {QX : String → kx_S → Prop} (hX : ∀ y0 y1, I y1 → QX y0 y1) : ∀ (l0 : Nat) (l1 : Int32) (l2 : Int32) (σ : kx_S), I σ → vX11_heap l0 l1 l2 σ Q QX := by
  intro l0 l1 l2 σ i
  unfold vX11_heap
  intro e1
  refine jfX11_reachAt (I := I) (fw_sub W (by decide)) ?_ hX _ _ _ i
  intro b2 σ1 iσ1
  intro e2
  refine ⟨?_, ?_⟩
  · intro a6 e3
    refine ⟨?_, ?_⟩
    · intro e4
      intro a8 e5
      intro e6
      intro a11 e7
      refine jfX11_numberAt (I := I) (fw_sub W (by decide)) ?_ _ _ _ iσ1
      intro r14 σ13 iσ13
      exact hQ _ _ iσ13
    · intro e8
      intro a15 e9
      intro e10
      intro a18 e11
      intro e12
      refine jfJx4a65c_size_8abf5 (I := I) (fw_sub W (by decide)) ?_ _ _ iσ1
      intro r21 σ20 iσ20
      exact hQ _ _ iσ20
  · intro e13
    exact hQ _ _ iσ1
def vX11_water (l0 : Nat) (l1 : Int32) (l2 : Int32) (σ : kx_S) (Q : Int32 → kx_S → Prop) (QX : String → kx_S → Prop) : Prop := xt σ l0 = 13 → vX11_reachAt l0 l1 σ (fun b2 σ1 => ∀ v4, v4 = l2 → ((v4 = 0 → xt σ1 b2 = 10 → Q (xi σ1 169 b2) σ1) ∧ ((v4 = 1 → xt σ1 b2 = 10 → Q (xi σ1 170 b2) σ1) ∧ ((v4 = 2 → xt σ1 b2 = 10 → (((xi σ1 165 b2) = 0 → Q (-1) σ1) ∧ (¬ ((xi σ1 165 b2) = 0) → Q (xi σ1 167 b2) σ1))) ∧ ((v4 = 3 → xt σ1 b2 = 10 → ((∀ a15, xr σ1 161 b2 = some a15 → ∀ a16, xr σ1 161 b2 = some a16 → xt σ1 a16 = 10 → Q (xi σ1 160 a16) σ1) ∧ (xr σ1 161 b2 = none → Q (-1) σ1))) ∧ ((v4 = 4 → xt σ1 b2 = 10 → ∀ a21, xr σ1 163 b2 = some a21 → xt σ1 a21 = 1 → vJx4a65c_size_8abf5 a21 σ1 (fun r24 σ23 => Q r24 σ23)) ∧ (¬ v4 = 0 → ¬ v4 = 1 → ¬ v4 = 2 → ¬ v4 = 3 → ¬ v4 = 4 → xc σ1 < kx_N → QX pz_N (xbump σ1)))))))) QX
set_option maxRecDepth 100000 in
set_option maxHeartbeats 4000000 in
theorem jcX11_water {Q Q' Q'' : Int32 → kx_S → Prop} (hQ : ∀ y0 y1, Q y0 y1 → Q' y0 y1 → Q'' y0 y1) {QX QX' QX'' : String → kx_S → Prop} (hX : ∀ y0 y1, QX y0 y1 → QX' y0 y1 → QX'' y0 y1) : ∀ (l0 : Nat) (l1 : Int32) (l2 : Int32) (σ : kx_S), wX11_water l0 l1 l2 σ Q QX → vX11_water l0 l1 l2 σ Q' QX' → wX11_water l0 l1 l2 σ Q'' QX'' := by
  intro l0 l1 l2 σ h v
  unfold wX11_water at h
  unfold vX11_water at v
  unfold wX11_water
  refine ⟨h.1, ?_⟩
  have v := v h.1
  have h := h.2
  refine jcX11_reachAt ?_ hX _ _ _ h v
  intro b2 σ1 h v
  intro v4 e2
  have h := h v4 e2
  have v := v v4 e2
  refine ⟨?_, ?_⟩
  · have h := h.1
    have v := v.1
    intro e3
    have h := h e3
    have v := v e3
    refine ⟨h.1, ?_⟩
    have v := v h.1
    have h := h.2
    exact hQ _ _ h v
  · have h := h.2
    have v := v.2
    refine ⟨?_, ?_⟩
    · have h := h.1
      have v := v.1
      intro e5
      have h := h e5
      have v := v e5
      refine ⟨h.1, ?_⟩
      have v := v h.1
      have h := h.2
      exact hQ _ _ h v
    · have h := h.2
      have v := v.2
      refine ⟨?_, ?_⟩
      · have h := h.1
        have v := v.1
        intro e7
        have h := h e7
        have v := v e7
        refine ⟨h.1, ?_⟩
        have v := v h.1
        have h := h.2
        refine ⟨?_, ?_⟩
        · have h := h.1
          have v := v.1
          intro e9
          have h := h e9
          have v := v e9
          exact hQ _ _ h v
        · have h := h.2
          have v := v.2
          intro e10
          have h := h e10
          have v := v e10
          exact hQ _ _ h v
      · have h := h.2
        have v := v.2
        refine ⟨?_, ?_⟩
        · have h := h.1
          have v := v.1
          intro e11
          have h := h e11
          have v := v e11
          refine ⟨h.1, ?_⟩
          have v := v h.1
          have h := h.2
          refine ⟨?_, ?_⟩
          · have h := h.1
            have v := v.1
            intro a15 e13
            have h := h a15 e13
            have v := v a15 e13
            obtain ⟨a16, e14, h⟩ := h
            refine ⟨a16, e14, ?_⟩
            have v := v a16 e14
            refine ⟨h.1, ?_⟩
            have v := v h.1
            have h := h.2
            exact hQ _ _ h v
          · have h := h.2
            have v := v.2
            intro e16
            have h := h e16
            have v := v e16
            exact hQ _ _ h v
        · have h := h.2
          have v := v.2
          refine ⟨?_, ?_⟩
          · have h := h.1
            have v := v.1
            intro e17
            have h := h e17
            have v := v e17
            refine ⟨h.1, ?_⟩
            have v := v h.1
            have h := h.2
            obtain ⟨a21, e19, h⟩ := h
            refine ⟨a21, e19, ?_⟩
            have v := v a21 e19
            refine ⟨h.1, ?_⟩
            have v := v h.1
            have h := h.2
            refine jcJx4a65c_size_8abf5 ?_ _ _ h v
            intro r24 σ23 h v
            exact hQ _ _ h v
          · have h := h.2
            have v := v.2
            intro e21 e22 e23 e24 e25
            have h := h e21 e22 e23 e24 e25
            have v := v e21 e22 e23 e24 e25
            refine ⟨h.1, ?_⟩
            have v := v h.1
            have h := h.2
            exact hX _ _ h v
set_option maxRecDepth 100000 in
set_option maxHeartbeats 4000000 in
theorem jaX11_water {Q Q' : Int32 → kx_S → Prop} (hQ : ∀ y0 y1, Q y0 y1 → Q' y0 y1) {QX QX' : String → kx_S → Prop} (hX : ∀ y0 y1, QX y0 y1 → QX' y0 y1) : ∀ (l0 : Nat) (l1 : Int32) (l2 : Int32) (σ : kx_S), wX11_water l0 l1 l2 σ Q QX → vX11_water l0 l1 l2 σ Q' QX' := by
  intro l0 l1 l2 σ h
  unfold wX11_water at h
  unfold vX11_water
  intro e1
  have h := h.2
  refine jaX11_reachAt ?_ hX _ _ _ h
  intro b2 σ1 h
  intro v4 e2
  have h := h v4 e2
  refine ⟨?_, ?_⟩
  · have h := h.1
    intro e3
    have h := h e3
    intro e4
    have h := h.2
    exact hQ _ _ h
  · have h := h.2
    refine ⟨?_, ?_⟩
    · have h := h.1
      intro e5
      have h := h e5
      intro e6
      have h := h.2
      exact hQ _ _ h
    · have h := h.2
      refine ⟨?_, ?_⟩
      · have h := h.1
        intro e7
        have h := h e7
        intro e8
        have h := h.2
        refine ⟨?_, ?_⟩
        · have h := h.1
          intro e9
          have h := h e9
          exact hQ _ _ h
        · have h := h.2
          intro e10
          have h := h e10
          exact hQ _ _ h
      · have h := h.2
        refine ⟨?_, ?_⟩
        · have h := h.1
          intro e11
          have h := h e11
          intro e12
          have h := h.2
          refine ⟨?_, ?_⟩
          · have h := h.1
            intro a15 e13
            have h := h a15 e13
            obtain ⟨a16', e14, h⟩ := h
            intro a16 e15
            have x9 : a16' = a16 := Option.some.inj (e14.symm.trans e15)
            rw [x9] at h
            intro e16
            have h := h.2
            exact hQ _ _ h
          · have h := h.2
            intro e17
            have h := h e17
            exact hQ _ _ h
        · have h := h.2
          refine ⟨?_, ?_⟩
          · have h := h.1
            intro e18
            have h := h e18
            intro e19
            have h := h.2
            obtain ⟨a21', e20, h⟩ := h
            intro a21 e21
            have x9 : a21' = a21 := Option.some.inj (e20.symm.trans e21)
            rw [x9] at h
            intro e22
            have h := h.2
            refine jaJx4a65c_size_8abf5 ?_ _ _ h
            intro r24 σ23 h
            exact hQ _ _ h
          · have h := h.2
            intro e23 e24 e25 e26 e27
            have h := h e23 e24 e25 e26 e27
            intro e28
            have h := h.2
            exact hX _ _ h
set_option maxRecDepth 100000 in
set_option maxHeartbeats 4000000 in
theorem jfX11_water {I : kx_S → Prop} (W : fw_ I [1005]) {Q : Int32 → kx_S → Prop} (hQ : ∀ y0 y1, I y1 → Q y0 y1) {QX : String → kx_S → Prop} (hX : ∀ y0 y1, I y1 → QX y0 y1) : ∀ (l0 : Nat) (l1 : Int32) (l2 : Int32) (σ : kx_S), I σ → vX11_water l0 l1 l2 σ Q QX := by
  intro l0 l1 l2 σ i
  unfold vX11_water
  intro e1
  refine jfX11_reachAt (I := I) (fw_sub W (by decide)) ?_ hX _ _ _ i
  intro b2 σ1 iσ1
  intro v4 e2
  refine ⟨?_, ?_⟩
  · intro e3
    intro e4
    exact hQ _ _ iσ1
  · refine ⟨?_, ?_⟩
    · intro e5
      intro e6
      exact hQ _ _ iσ1
    · refine ⟨?_, ?_⟩
      · intro e7
        intro e8
        refine ⟨?_, ?_⟩
        · intro e9
          exact hQ _ _ iσ1
        · intro e10
          exact hQ _ _ iσ1
      · refine ⟨?_, ?_⟩
        · intro e11
          intro e12
          refine ⟨?_, ?_⟩
          · intro a15 e13
            intro a16 e14
            intro e15
            exact hQ _ _ iσ1
          · intro e16
            exact hQ _ _ iσ1
        · refine ⟨?_, ?_⟩
          · intro e17
            intro e18
            intro a21 e19
            intro e20
            refine jfJx4a65c_size_8abf5 (I := I) (fw_sub W (by decide)) ?_ _ _ iσ1
            intro r24 σ23 iσ23
            exact hQ _ _ iσ23
          · intro e21 e22 e23 e24 e25
            intro e26
            exact hX _ _ ((W _ iσ1).2.2.2.2.2.1 (by decide))
def vX11_waters (l0 : Nat) (l1 : Int32) (σ : kx_S) (Q : Int64 → kx_S → Prop) (QX : String → kx_S → Prop) : Prop := ∀ v1, v1 = l1 → ((v1 = 0 → xt σ l0 = 13 → Q (xl σ 220 l0) σ) ∧ ((v1 = 1 → xt σ l0 = 13 → Q (xl σ 221 l0) σ) ∧ (¬ v1 = 0 → ¬ v1 = 1 → xc σ < kx_N → QX pz_N (xbump σ))))
set_option maxRecDepth 100000 in
set_option maxHeartbeats 4000000 in
theorem jcX11_waters {Q Q' Q'' : Int64 → kx_S → Prop} (hQ : ∀ y0 y1, Q y0 y1 → Q' y0 y1 → Q'' y0 y1) {QX QX' QX'' : String → kx_S → Prop} (hX : ∀ y0 y1, QX y0 y1 → QX' y0 y1 → QX'' y0 y1) : ∀ (l0 : Nat) (l1 : Int32) (σ : kx_S), wX11_waters l0 l1 σ Q QX → vX11_waters l0 l1 σ Q' QX' → wX11_waters l0 l1 σ Q'' QX'' := by
  intro l0 l1 σ h v
  unfold wX11_waters at h
  unfold vX11_waters at v
  unfold wX11_waters
  intro v1 e1
  have h := h v1 e1
  have v := v v1 e1
  refine ⟨?_, ?_⟩
  · have h := h.1
    have v := v.1
    intro e2
    have h := h e2
    have v := v e2
    refine ⟨h.1, ?_⟩
    have v := v h.1
    have h := h.2
    exact hQ _ _ h v
  · have h := h.2
    have v := v.2
    refine ⟨?_, ?_⟩
    · have h := h.1
      have v := v.1
      intro e4
      have h := h e4
      have v := v e4
      refine ⟨h.1, ?_⟩
      have v := v h.1
      have h := h.2
      exact hQ _ _ h v
    · have h := h.2
      have v := v.2
      intro e6 e7
      have h := h e6 e7
      have v := v e6 e7
      refine ⟨h.1, ?_⟩
      have v := v h.1
      have h := h.2
      exact hX _ _ h v
set_option maxRecDepth 100000 in
set_option maxHeartbeats 4000000 in
theorem jaX11_waters {Q Q' : Int64 → kx_S → Prop} (hQ : ∀ y0 y1, Q y0 y1 → Q' y0 y1) {QX QX' : String → kx_S → Prop} (hX : ∀ y0 y1, QX y0 y1 → QX' y0 y1) : ∀ (l0 : Nat) (l1 : Int32) (σ : kx_S), wX11_waters l0 l1 σ Q QX → vX11_waters l0 l1 σ Q' QX' := by
  intro l0 l1 σ h
  unfold wX11_waters at h
  unfold vX11_waters
  intro v1 e1
  have h := h v1 e1
  refine ⟨?_, ?_⟩
  · have h := h.1
    intro e2
    have h := h e2
    intro e3
    have h := h.2
    exact hQ _ _ h
  · have h := h.2
    refine ⟨?_, ?_⟩
    · have h := h.1
      intro e4
      have h := h e4
      intro e5
      have h := h.2
      exact hQ _ _ h
    · have h := h.2
      intro e6 e7
      have h := h e6 e7
      intro e8
      have h := h.2
      exact hX _ _ h
set_option maxRecDepth 100000 in
set_option maxHeartbeats 4000000 in
theorem jfX11_waters {I : kx_S → Prop} (W : fw_ I [1005]) {Q : Int64 → kx_S → Prop} (hQ : ∀ y0 y1, I y1 → Q y0 y1) {QX : String → kx_S → Prop} (hX : ∀ y0 y1, I y1 → QX y0 y1) : ∀ (l0 : Nat) (l1 : Int32) (σ : kx_S), I σ → vX11_waters l0 l1 σ Q QX := by
  intro l0 l1 σ i
  unfold vX11_waters
  intro v1 e1
  refine ⟨?_, ?_⟩
  · intro e2
    intro e3
    exact hQ _ _ i
  · refine ⟨?_, ?_⟩
    · intro e4
      intro e5
      exact hQ _ _ i
    · intro e6 e7
      intro e8
      exact hX _ _ ((W _ i).2.2.2.2.2.1 (by decide))
def vX11_board_61 (k2 : Nat → Int32 → Int32 → kx_S → Prop) (Q : Int32 → kx_S → Prop) (QX : String → kx_S → Prop) (l0 : Nat) (l1 : Int32) (l2 : Int32) (σ : kx_S) : Prop := ∀ v1 : Int32, v1 = l2 + 1 → k2 l0 l1 v1 σ
set_option maxRecDepth 100000 in
set_option maxHeartbeats 4000000 in
theorem jcX11_board_61 {k2 k2' k2'' : Nat → Int32 → Int32 → kx_S → Prop} (hk2 : ∀ y0 y1 y2 y3, k2 y0 y1 y2 y3 → k2' y0 y1 y2 y3 → k2'' y0 y1 y2 y3) {Q Q' Q'' : Int32 → kx_S → Prop} (hQ : ∀ y0 y1, Q y0 y1 → Q' y0 y1 → Q'' y0 y1) {QX QX' QX'' : String → kx_S → Prop} (hX : ∀ y0 y1, QX y0 y1 → QX' y0 y1 → QX'' y0 y1) : ∀ (l0 : Nat) (l1 : Int32) (l2 : Int32) (σ : kx_S), wX11_board_61 k2 Q QX l0 l1 l2 σ → vX11_board_61 k2' Q' QX' l0 l1 l2 σ → wX11_board_61 k2'' Q'' QX'' l0 l1 l2 σ := by
  intro l0 l1 l2 σ h v
  unfold wX11_board_61 at h
  unfold vX11_board_61 at v
  unfold wX11_board_61
  intro v1 e1
  have h := h v1 e1
  have v := v v1 e1
  exact hk2 _ _ _ _ h v
set_option maxRecDepth 100000 in
set_option maxHeartbeats 4000000 in
theorem jaX11_board_61 {k2 k2' : Nat → Int32 → Int32 → kx_S → Prop} (hk2 : ∀ y0 y1 y2 y3, k2 y0 y1 y2 y3 → k2' y0 y1 y2 y3) {Q Q' : Int32 → kx_S → Prop} (hQ : ∀ y0 y1, Q y0 y1 → Q' y0 y1) {QX QX' : String → kx_S → Prop} (hX : ∀ y0 y1, QX y0 y1 → QX' y0 y1) : ∀ (l0 : Nat) (l1 : Int32) (l2 : Int32) (σ : kx_S), wX11_board_61 k2 Q QX l0 l1 l2 σ → vX11_board_61 k2' Q' QX' l0 l1 l2 σ := by
  intro l0 l1 l2 σ h
  unfold wX11_board_61 at h
  unfold vX11_board_61
  intro v1 e1
  have h := h v1 e1
  exact hk2 _ _ _ _ h
set_option maxRecDepth 100000 in
set_option maxHeartbeats 4000000 in
theorem jfX11_board_61 {I : kx_S → Prop} (W : fw_ I []) {k2 : Nat → Int32 → Int32 → kx_S → Prop} (hk2 : ∀ y0 y1 y2 y3, I y3 → k2 y0 y1 y2 y3) {Q : Int32 → kx_S → Prop} (hQ : ∀ y0 y1, I y1 → Q y0 y1) {QX : String → kx_S → Prop} (hX : ∀ y0 y1, I y1 → QX y0 y1) : ∀ (l0 : Nat) (l1 : Int32) (l2 : Int32) (σ : kx_S), I σ → vX11_board_61 k2 Q QX l0 l1 l2 σ := by
  intro l0 l1 l2 σ i
  unfold vX11_board_61
  intro v1 e1
  exact hk2 _ _ _ _ i
def vX11_board_67 (Q : Int32 → kx_S → Prop) (QX : String → kx_S → Prop) (σ : kx_S) : Prop := xc σ < kx_N → QX pz_N (xbump σ)
set_option maxRecDepth 100000 in
set_option maxHeartbeats 4000000 in
theorem jcX11_board_67 {Q Q' Q'' : Int32 → kx_S → Prop} (hQ : ∀ y0 y1, Q y0 y1 → Q' y0 y1 → Q'' y0 y1) {QX QX' QX'' : String → kx_S → Prop} (hX : ∀ y0 y1, QX y0 y1 → QX' y0 y1 → QX'' y0 y1) : ∀ (σ : kx_S), wX11_board_67 Q QX σ → vX11_board_67 Q' QX' σ → wX11_board_67 Q'' QX'' σ := by
  intro σ h v
  unfold wX11_board_67 at h
  unfold vX11_board_67 at v
  unfold wX11_board_67
  refine ⟨h.1, ?_⟩
  have v := v h.1
  have h := h.2
  exact hX _ _ h v
set_option maxRecDepth 100000 in
set_option maxHeartbeats 4000000 in
theorem jaX11_board_67 {Q Q' : Int32 → kx_S → Prop} (hQ : ∀ y0 y1, Q y0 y1 → Q' y0 y1) {QX QX' : String → kx_S → Prop} (hX : ∀ y0 y1, QX y0 y1 → QX' y0 y1) : ∀ (σ : kx_S), wX11_board_67 Q QX σ → vX11_board_67 Q' QX' σ := by
  intro σ h
  unfold wX11_board_67 at h
  unfold vX11_board_67
  intro e1
  have h := h.2
  exact hX _ _ h
set_option maxRecDepth 100000 in
set_option maxHeartbeats 4000000 in
theorem jfX11_board_67 {I : kx_S → Prop} (W : fw_ I [1005]) {Q : Int32 → kx_S → Prop} (hQ : ∀ y0 y1, I y1 → Q y0 y1) {QX : String → kx_S → Prop} (hX : ∀ y0 y1, I y1 → QX y0 y1) : ∀ (σ : kx_S), I σ → vX11_board_67 Q QX σ := by
  intro σ i
  unfold vX11_board_67
  intro e1
  exact hX _ _ ((W _ i).2.2.2.2.2.1 (by decide))
def vX11_board_2 (k67 : kx_S → Prop) (Q : Int32 → kx_S → Prop) (QX : String → kx_S → Prop) : Nat → Nat → Int32 → Int32 → kx_S → Prop
  | 0, _, _, _, _ => True
  | n + 1, l0, l1, l2, σ => xt σ l0 = 13 → ∀ a4, xr σ 209 l0 = some a4 → xt σ a4 = 1 → vJx4a65c_size_8abf5 a4 σ (fun r7 σ6 => ((r7 ≤ l2 → k67 σ6) ∧ (¬ (r7 ≤ l2) → xt σ6 l0 = 13 → ∀ a11, xr σ6 209 l0 = some a11 → xt σ6 a11 = 1 → vJx4a65c_get_915e3 a11 l2 σ6 (fun q14 σ13 => ∀ a16, q14 = some a16 → xt σ13 a16 = 8 → (((xi σ13 136 a16) = (-1) → vX11_board_61 (vX11_board_2 k67 Q QX n) Q QX l0 l1 l2 σ13) ∧ (¬ ((xi σ13 136 a16) = (-1)) → vX11_isWithin l1 (xi σ13 136 a16) (((xi σ13 136 a16) + (xi σ13 130 a16)) - 1) σ13 (fun r21 σ20 => ((r21 = 0 → vX11_board_61 (vX11_board_2 k67 Q QX n) Q QX l0 l1 l2 σ20) ∧ (¬ (r21 = 0) → Q l2 σ20)))))))))
set_option maxRecDepth 100000 in
set_option maxHeartbeats 4000000 in
theorem jcX11_board_2 {k67 k67' k67'' : kx_S → Prop} (hk67 : ∀ y0, k67 y0 → k67' y0 → k67'' y0) {Q Q' Q'' : Int32 → kx_S → Prop} (hQ : ∀ y0 y1, Q y0 y1 → Q' y0 y1 → Q'' y0 y1) {QX QX' QX'' : String → kx_S → Prop} (hX : ∀ y0 y1, QX y0 y1 → QX' y0 y1 → QX'' y0 y1) : ∀ (n : Nat) (l0 : Nat) (l1 : Int32) (l2 : Int32) (σ : kx_S), wX11_board_2 k67 Q QX n l0 l1 l2 σ → vX11_board_2 k67' Q' QX' n l0 l1 l2 σ → wX11_board_2 k67'' Q'' QX'' n l0 l1 l2 σ := by
  intro n
  induction n with
  | zero => intro l0 l1 l2 σ h; exact h.elim
  | succ n ih =>
    intro l0 l1 l2 σ h v
    unfold wX11_board_2 at h
    unfold vX11_board_2 at v
    unfold wX11_board_2
    refine ⟨h.1, ?_⟩
    have v := v h.1
    have h := h.2
    obtain ⟨a4, e2, h⟩ := h
    refine ⟨a4, e2, ?_⟩
    have v := v a4 e2
    refine ⟨h.1, ?_⟩
    have v := v h.1
    have h := h.2
    refine jcJx4a65c_size_8abf5 ?_ _ _ h v
    intro r7 σ6 h v
    refine ⟨?_, ?_⟩
    · have h := h.1
      have v := v.1
      intro e4
      have h := h e4
      have v := v e4
      exact hk67 _ h v
    · have h := h.2
      have v := v.2
      intro e5
      have h := h e5
      have v := v e5
      refine ⟨h.1, ?_⟩
      have v := v h.1
      have h := h.2
      obtain ⟨a11, e7, h⟩ := h
      refine ⟨a11, e7, ?_⟩
      have v := v a11 e7
      refine ⟨h.1, ?_⟩
      have v := v h.1
      have h := h.2
      refine jcJx4a65c_get_915e3 ?_ _ _ _ h v
      intro q14 σ13 h v
      obtain ⟨a16, e9, h⟩ := h
      refine ⟨a16, e9, ?_⟩
      have v := v a16 e9
      refine ⟨h.1, ?_⟩
      have v := v h.1
      have h := h.2
      refine ⟨?_, ?_⟩
      · have h := h.1
        have v := v.1
        intro e11
        have h := h e11
        have v := v e11
        exact jcX11_board_61 (k2 := wX11_board_2 k67 Q QX n) (k2' := vX11_board_2 k67' Q' QX' n) (k2'' := wX11_board_2 k67'' Q'' QX'' n) (fun _ _ _ _ h v => ih _ _ _ _ h v) hQ hX _ _ _ _ h v
      · have h := h.2
        have v := v.2
        intro e12
        have h := h e12
        have v := v e12
        refine jcX11_isWithin ?_ _ _ _ _ h v
        intro r21 σ20 h v
        refine ⟨?_, ?_⟩
        · have h := h.1
          have v := v.1
          intro e13
          have h := h e13
          have v := v e13
          exact jcX11_board_61 (k2 := wX11_board_2 k67 Q QX n) (k2' := vX11_board_2 k67' Q' QX' n) (k2'' := wX11_board_2 k67'' Q'' QX'' n) (fun _ _ _ _ h v => ih _ _ _ _ h v) hQ hX _ _ _ _ h v
        · have h := h.2
          have v := v.2
          intro e14
          have h := h e14
          have v := v e14
          exact hQ _ _ h v
set_option maxRecDepth 100000 in
set_option maxHeartbeats 4000000 in
theorem jaX11_board_2 {k67 k67' : kx_S → Prop} (hk67 : ∀ y0, k67 y0 → k67' y0) {Q Q' : Int32 → kx_S → Prop} (hQ : ∀ y0 y1, Q y0 y1 → Q' y0 y1) {QX QX' : String → kx_S → Prop} (hX : ∀ y0 y1, QX y0 y1 → QX' y0 y1) : ∀ (n m : Nat) (l0 : Nat) (l1 : Int32) (l2 : Int32) (σ : kx_S), wX11_board_2 k67 Q QX n l0 l1 l2 σ → vX11_board_2 k67' Q' QX' m l0 l1 l2 σ := by
  intro n
  induction n with
  | zero => intro m l0 l1 l2 σ h; exact h.elim
  | succ n ih =>
    intro m l0 l1 l2 σ h
    cases m with
    | zero => exact trivial
    | succ m =>
      unfold wX11_board_2 at h
      unfold vX11_board_2
      intro e1
      have h := h.2
      obtain ⟨a4', e2, h⟩ := h
      intro a4 e3
      have x9 : a4' = a4 := Option.some.inj (e2.symm.trans e3)
      rw [x9] at h
      intro e4
      have h := h.2
      refine jaJx4a65c_size_8abf5 ?_ _ _ h
      intro r7 σ6 h
      refine ⟨?_, ?_⟩
      · have h := h.1
        intro e5
        have h := h e5
        exact hk67 _ h
      · have h := h.2
        intro e6
        have h := h e6
        intro e7
        have h := h.2
        obtain ⟨a11', e8, h⟩ := h
        intro a11 e9
        have x9 : a11' = a11 := Option.some.inj (e8.symm.trans e9)
        rw [x9] at h
        intro e10
        have h := h.2
        refine jaJx4a65c_get_915e3 ?_ _ _ _ h
        intro q14 σ13 h
        obtain ⟨a16', e11, h⟩ := h
        intro a16 e12
        have x9 : a16' = a16 := Option.some.inj (e11.symm.trans e12)
        rw [x9] at h
        intro e13
        have h := h.2
        refine ⟨?_, ?_⟩
        · have h := h.1
          intro e14
          have h := h e14
          exact jaX11_board_61 (k2 := wX11_board_2 k67 Q QX n) (k2' := vX11_board_2 k67' Q' QX' m) (fun _ _ _ _ h => ih m _ _ _ _ h) hQ hX _ _ _ _ h
        · have h := h.2
          intro e15
          have h := h e15
          refine jaX11_isWithin ?_ _ _ _ _ h
          intro r21 σ20 h
          refine ⟨?_, ?_⟩
          · have h := h.1
            intro e16
            have h := h e16
            exact jaX11_board_61 (k2 := wX11_board_2 k67 Q QX n) (k2' := vX11_board_2 k67' Q' QX' m) (fun _ _ _ _ h => ih m _ _ _ _ h) hQ hX _ _ _ _ h
          · have h := h.2
            intro e17
            have h := h e17
            exact hQ _ _ h
set_option maxRecDepth 100000 in
set_option maxHeartbeats 4000000 in
theorem jfX11_board_2 {I : kx_S → Prop} (W : fw_ I []) {k67 : kx_S → Prop} (hk67 : ∀ y0, I y0 → k67 y0) {Q : Int32 → kx_S → Prop} (hQ : ∀ y0 y1, I y1 → Q y0 y1) {QX : String → kx_S → Prop} (hX : ∀ y0 y1, I y1 → QX y0 y1) : ∀ (n : Nat) (l0 : Nat) (l1 : Int32) (l2 : Int32) (σ : kx_S), I σ → vX11_board_2 k67 Q QX n l0 l1 l2 σ := by
  intro n
  induction n with
  | zero => intro l0 l1 l2 σ i; exact trivial
  | succ n ih =>
    intro l0 l1 l2 σ i
    unfold vX11_board_2
    intro e1
    intro a4 e2
    intro e3
    refine jfJx4a65c_size_8abf5 (I := I) (fw_sub W (by decide)) ?_ _ _ i
    intro r7 σ6 iσ6
    refine ⟨?_, ?_⟩
    · intro e4
      exact hk67 _ iσ6
    · intro e5
      intro e6
      intro a11 e7
      intro e8
      refine jfJx4a65c_get_915e3 (I := I) (fw_sub W (by decide)) ?_ _ _ _ iσ6
      intro q14 σ13 iσ13
      intro a16 e9
      intro e10
      refine ⟨?_, ?_⟩
      · intro e11
        exact jfX11_board_61 (I := I) (fw_sub W (by decide)) (k2 := vX11_board_2 k67 Q QX n) (fun _ _ _ _ i => ih _ _ _ _ i) hQ hX _ _ _ _ iσ13
      · intro e12
        refine jfX11_isWithin (I := I) (fw_sub W (by decide)) ?_ _ _ _ _ iσ13
        intro r21 σ20 iσ20
        refine ⟨?_, ?_⟩
        · intro e13
          exact jfX11_board_61 (I := I) (fw_sub W (by decide)) (k2 := vX11_board_2 k67 Q QX n) (fun _ _ _ _ i => ih _ _ _ _ i) hQ hX _ _ _ _ iσ20
        · intro e14
          exact hQ _ _ iσ20
def vX11_board (l0 : Nat) (l1 : Int32) (σ : kx_S) (Q : Int32 → kx_S → Prop) (QX : String → kx_S → Prop) : Prop := ∀ j, vX11_board_2 (vX11_board_67 Q QX) Q QX j l0 l1 0 σ
set_option maxRecDepth 100000 in
set_option maxHeartbeats 4000000 in
theorem jcX11_board {Q Q' Q'' : Int32 → kx_S → Prop} (hQ : ∀ y0 y1, Q y0 y1 → Q' y0 y1 → Q'' y0 y1) {QX QX' QX'' : String → kx_S → Prop} (hX : ∀ y0 y1, QX y0 y1 → QX' y0 y1 → QX'' y0 y1) : ∀ (l0 : Nat) (l1 : Int32) (σ : kx_S), wX11_board l0 l1 σ Q QX → vX11_board l0 l1 σ Q' QX' → wX11_board l0 l1 σ Q'' QX'' := by
  intro l0 l1 σ h v
  unfold wX11_board at h
  unfold vX11_board at v
  unfold wX11_board
  obtain ⟨j, h⟩ := h
  refine ⟨j, ?_⟩
  have v := v j
  exact jcX11_board_2 (k67 := wX11_board_67 Q QX) (k67' := vX11_board_67 Q' QX') (k67'' := wX11_board_67 Q'' QX'') (fun _ h v => jcX11_board_67 hQ hX _ h v) hQ hX _ _ _ _ _ h v
set_option maxRecDepth 100000 in
set_option maxHeartbeats 4000000 in
theorem jaX11_board {Q Q' : Int32 → kx_S → Prop} (hQ : ∀ y0 y1, Q y0 y1 → Q' y0 y1) {QX QX' : String → kx_S → Prop} (hX : ∀ y0 y1, QX y0 y1 → QX' y0 y1) : ∀ (l0 : Nat) (l1 : Int32) (σ : kx_S), wX11_board l0 l1 σ Q QX → vX11_board l0 l1 σ Q' QX' := by
  intro l0 l1 σ h
  unfold wX11_board at h
  unfold vX11_board
  obtain ⟨j, h⟩ := h
  intro j9
  exact jaX11_board_2 (k67 := wX11_board_67 Q QX) (k67' := vX11_board_67 Q' QX') (fun _ h => jaX11_board_67 hQ hX _ h) hQ hX _ j9 _ _ _ _ h
set_option maxRecDepth 100000 in
set_option maxHeartbeats 4000000 in
theorem jfX11_board {I : kx_S → Prop} (W : fw_ I [1005]) {Q : Int32 → kx_S → Prop} (hQ : ∀ y0 y1, I y1 → Q y0 y1) {QX : String → kx_S → Prop} (hX : ∀ y0 y1, I y1 → QX y0 y1) : ∀ (l0 : Nat) (l1 : Int32) (σ : kx_S), I σ → vX11_board l0 l1 σ Q QX := by
  intro l0 l1 σ i
  unfold vX11_board
  intro j
  exact jfX11_board_2 (I := I) (fw_sub W (by decide)) (k67 := vX11_board_67 Q QX) (fun _ i => jfX11_board_67 (I := I) (fw_sub W (by decide)) hQ hX _ i) hQ hX _ _ _ _ _ i
def vX11_paid (l0 : Nat) (l1 : Int32) (σ : kx_S) (Q : Int64 → kx_S → Prop) (QX : String → kx_S → Prop) : Prop := vX11_isWithin l1 0 15 σ (fun r2 σ1 => ((¬ r2 = 0 → xt σ1 l0 = 13 → ∀ a5, xr σ1 216 l0 = some a5 → xt σ1 a5 = 21 → vp_in l1 (xn σ1 a5) → Q (xal σ1 a5 l1.toNatClampNeg) σ1) ∧ (r2 = 0 → xc σ1 < kx_N → QX pz_N (xbump σ1))))
set_option maxRecDepth 100000 in
set_option maxHeartbeats 4000000 in
theorem jcX11_paid {Q Q' Q'' : Int64 → kx_S → Prop} (hQ : ∀ y0 y1, Q y0 y1 → Q' y0 y1 → Q'' y0 y1) {QX QX' QX'' : String → kx_S → Prop} (hX : ∀ y0 y1, QX y0 y1 → QX' y0 y1 → QX'' y0 y1) : ∀ (l0 : Nat) (l1 : Int32) (σ : kx_S), wX11_paid l0 l1 σ Q QX → vX11_paid l0 l1 σ Q' QX' → wX11_paid l0 l1 σ Q'' QX'' := by
  intro l0 l1 σ h v
  unfold wX11_paid at h
  unfold vX11_paid at v
  unfold wX11_paid
  refine jcX11_isWithin ?_ _ _ _ _ h v
  intro r2 σ1 h v
  refine ⟨?_, ?_⟩
  · have h := h.1
    have v := v.1
    intro e1
    have h := h e1
    have v := v e1
    refine ⟨h.1, ?_⟩
    have v := v h.1
    have h := h.2
    obtain ⟨a5, e3, h⟩ := h
    refine ⟨a5, e3, ?_⟩
    have v := v a5 e3
    refine ⟨h.1, ?_⟩
    have v := v h.1
    have h := h.2
    refine ⟨h.1, ?_⟩
    have v := v h.1
    have h := h.2
    exact hQ _ _ h v
  · have h := h.2
    have v := v.2
    intro e6
    have h := h e6
    have v := v e6
    refine ⟨h.1, ?_⟩
    have v := v h.1
    have h := h.2
    exact hX _ _ h v
set_option maxRecDepth 100000 in
set_option maxHeartbeats 4000000 in
theorem jaX11_paid {Q Q' : Int64 → kx_S → Prop} (hQ : ∀ y0 y1, Q y0 y1 → Q' y0 y1) {QX QX' : String → kx_S → Prop} (hX : ∀ y0 y1, QX y0 y1 → QX' y0 y1) : ∀ (l0 : Nat) (l1 : Int32) (σ : kx_S), wX11_paid l0 l1 σ Q QX → vX11_paid l0 l1 σ Q' QX' := by
  intro l0 l1 σ h
  unfold wX11_paid at h
  unfold vX11_paid
  refine jaX11_isWithin ?_ _ _ _ _ h
  intro r2 σ1 h
  refine ⟨?_, ?_⟩
  · have h := h.1
    intro e1
    have h := h e1
    intro e2
    have h := h.2
    obtain ⟨a5', e3, h⟩ := h
    intro a5 e4
    have x9 : a5' = a5 := Option.some.inj (e3.symm.trans e4)
    rw [x9] at h
    intro e5
    have h := h.2
    intro e6
    have h := h.2
    exact hQ _ _ h
  · have h := h.2
    intro e7
    have h := h e7
    intro e8
    have h := h.2
    exact hX _ _ h
set_option maxRecDepth 100000 in
set_option maxHeartbeats 4000000 in
theorem jfX11_paid {I : kx_S → Prop} (W : fw_ I [1005]) {Q : Int64 → kx_S → Prop} (hQ : ∀ y0 y1, I y1 → Q y0 y1) {QX : String → kx_S → Prop} (hX : ∀ y0 y1, I y1 → QX y0 y1) : ∀ (l0 : Nat) (l1 : Int32) (σ : kx_S), I σ → vX11_paid l0 l1 σ Q QX := by
  intro l0 l1 σ i
  unfold vX11_paid
  refine jfX11_isWithin (I := I) (fw_sub W (by decide)) ?_ _ _ _ _ i
  intro r2 σ1 iσ1
  refine ⟨?_, ?_⟩
  · intro e1
    intro e2
    intro a5 e3
    intro e4
    intro e5
    exact hQ _ _ iσ1
  · intro e6
    intro e7
    exact hX _ _ ((W _ iσ1).2.2.2.2.2.1 (by decide))
def vX11_countJams_90 (k93 : Nat → Int32 → Int32 → Int32 → Nat → Int32 → kx_S → Prop) (Q : Int32 → kx_S → Prop) (l0 : Nat) (l1 : Int32) (l2 : Int32) (l3 : Int32) (l4 : Nat) (l5 : Int32) (σ : kx_S) : Prop := ∀ v1 : Int32, v1 = l2 + 1 → k93 l0 l1 v1 l3 l4 l5 σ
set_option maxRecDepth 100000 in
set_option maxHeartbeats 4000000 in
theorem jcX11_countJams_90 {k93 k93' k93'' : Nat → Int32 → Int32 → Int32 → Nat → Int32 → kx_S → Prop} (hk93 : ∀ y0 y1 y2 y3 y4 y5 y6, k93 y0 y1 y2 y3 y4 y5 y6 → k93' y0 y1 y2 y3 y4 y5 y6 → k93'' y0 y1 y2 y3 y4 y5 y6) {Q Q' Q'' : Int32 → kx_S → Prop} (hQ : ∀ y0 y1, Q y0 y1 → Q' y0 y1 → Q'' y0 y1) : ∀ (l0 : Nat) (l1 : Int32) (l2 : Int32) (l3 : Int32) (l4 : Nat) (l5 : Int32) (σ : kx_S), wX11_countJams_90 k93 Q l0 l1 l2 l3 l4 l5 σ → vX11_countJams_90 k93' Q' l0 l1 l2 l3 l4 l5 σ → wX11_countJams_90 k93'' Q'' l0 l1 l2 l3 l4 l5 σ := by
  intro l0 l1 l2 l3 l4 l5 σ h v
  unfold wX11_countJams_90 at h
  unfold vX11_countJams_90 at v
  unfold wX11_countJams_90
  intro v1 e1
  have h := h v1 e1
  have v := v v1 e1
  exact hk93 _ _ _ _ _ _ _ h v
set_option maxRecDepth 100000 in
set_option maxHeartbeats 4000000 in
theorem jaX11_countJams_90 {k93 k93' : Nat → Int32 → Int32 → Int32 → Nat → Int32 → kx_S → Prop} (hk93 : ∀ y0 y1 y2 y3 y4 y5 y6, k93 y0 y1 y2 y3 y4 y5 y6 → k93' y0 y1 y2 y3 y4 y5 y6) {Q Q' : Int32 → kx_S → Prop} (hQ : ∀ y0 y1, Q y0 y1 → Q' y0 y1) : ∀ (l0 : Nat) (l1 : Int32) (l2 : Int32) (l3 : Int32) (l4 : Nat) (l5 : Int32) (σ : kx_S), wX11_countJams_90 k93 Q l0 l1 l2 l3 l4 l5 σ → vX11_countJams_90 k93' Q' l0 l1 l2 l3 l4 l5 σ := by
  intro l0 l1 l2 l3 l4 l5 σ h
  unfold wX11_countJams_90 at h
  unfold vX11_countJams_90
  intro v1 e1
  have h := h v1 e1
  exact hk93 _ _ _ _ _ _ _ h
set_option maxRecDepth 100000 in
set_option maxHeartbeats 4000000 in
theorem jfX11_countJams_90 {I : kx_S → Prop} (W : fw_ I []) {k93 : Nat → Int32 → Int32 → Int32 → Nat → Int32 → kx_S → Prop} (hk93 : ∀ y0 y1 y2 y3 y4 y5 y6, I y6 → k93 y0 y1 y2 y3 y4 y5 y6) {Q : Int32 → kx_S → Prop} (hQ : ∀ y0 y1, I y1 → Q y0 y1) : ∀ (l0 : Nat) (l1 : Int32) (l2 : Int32) (l3 : Int32) (l4 : Nat) (l5 : Int32) (σ : kx_S), I σ → vX11_countJams_90 k93 Q l0 l1 l2 l3 l4 l5 σ := by
  intro l0 l1 l2 l3 l4 l5 σ i
  unfold vX11_countJams_90
  intro v1 e1
  exact hk93 _ _ _ _ _ _ _ i
def vX11_countJams_99 (k4 : Nat → Int32 → Int32 → Int32 → kx_S → Prop) (Q : Int32 → kx_S → Prop) (l0 : Nat) (l1 : Int32) (l2 : Int32) (l3 : Int32) (σ : kx_S) : Prop := ∀ v2 : Int32, v2 = l3 + 1 → k4 l0 l1 l2 v2 σ
set_option maxRecDepth 100000 in
set_option maxHeartbeats 4000000 in
theorem jcX11_countJams_99 {k4 k4' k4'' : Nat → Int32 → Int32 → Int32 → kx_S → Prop} (hk4 : ∀ y0 y1 y2 y3 y4, k4 y0 y1 y2 y3 y4 → k4' y0 y1 y2 y3 y4 → k4'' y0 y1 y2 y3 y4) {Q Q' Q'' : Int32 → kx_S → Prop} (hQ : ∀ y0 y1, Q y0 y1 → Q' y0 y1 → Q'' y0 y1) : ∀ (l0 : Nat) (l1 : Int32) (l2 : Int32) (l3 : Int32) (σ : kx_S), wX11_countJams_99 k4 Q l0 l1 l2 l3 σ → vX11_countJams_99 k4' Q' l0 l1 l2 l3 σ → wX11_countJams_99 k4'' Q'' l0 l1 l2 l3 σ := by
  intro l0 l1 l2 l3 σ h v
  unfold wX11_countJams_99 at h
  unfold vX11_countJams_99 at v
  unfold wX11_countJams_99
  intro v2 e1
  have h := h v2 e1
  have v := v v2 e1
  exact hk4 _ _ _ _ _ h v
set_option maxRecDepth 100000 in
set_option maxHeartbeats 4000000 in
theorem jaX11_countJams_99 {k4 k4' : Nat → Int32 → Int32 → Int32 → kx_S → Prop} (hk4 : ∀ y0 y1 y2 y3 y4, k4 y0 y1 y2 y3 y4 → k4' y0 y1 y2 y3 y4) {Q Q' : Int32 → kx_S → Prop} (hQ : ∀ y0 y1, Q y0 y1 → Q' y0 y1) : ∀ (l0 : Nat) (l1 : Int32) (l2 : Int32) (l3 : Int32) (σ : kx_S), wX11_countJams_99 k4 Q l0 l1 l2 l3 σ → vX11_countJams_99 k4' Q' l0 l1 l2 l3 σ := by
  intro l0 l1 l2 l3 σ h
  unfold wX11_countJams_99 at h
  unfold vX11_countJams_99
  intro v2 e1
  have h := h v2 e1
  exact hk4 _ _ _ _ _ h
set_option maxRecDepth 100000 in
set_option maxHeartbeats 4000000 in
theorem jfX11_countJams_99 {I : kx_S → Prop} (W : fw_ I []) {k4 : Nat → Int32 → Int32 → Int32 → kx_S → Prop} (hk4 : ∀ y0 y1 y2 y3 y4, I y4 → k4 y0 y1 y2 y3 y4) {Q : Int32 → kx_S → Prop} (hQ : ∀ y0 y1, I y1 → Q y0 y1) : ∀ (l0 : Nat) (l1 : Int32) (l2 : Int32) (l3 : Int32) (σ : kx_S), I σ → vX11_countJams_99 k4 Q l0 l1 l2 l3 σ := by
  intro l0 l1 l2 l3 σ i
  unfold vX11_countJams_99
  intro v2 e1
  exact hk4 _ _ _ _ _ i
def vX11_countJams_93 (k35 : Nat → Int32 → Int32 → Int32 → Nat → Int32 → kx_S → Prop) (Q : Int32 → kx_S → Prop) (l0 : Nat) (l1 : Int32) (l2 : Int32) (l3 : Int32) (l4 : Nat) (l5 : Int32) (σ : kx_S) : Prop := ∀ v3 : Int32, v3 = l5 + 1 → k35 l0 l1 l2 l3 l4 v3 σ
set_option maxRecDepth 100000 in
set_option maxHeartbeats 4000000 in
theorem jcX11_countJams_93 {k35 k35' k35'' : Nat → Int32 → Int32 → Int32 → Nat → Int32 → kx_S → Prop} (hk35 : ∀ y0 y1 y2 y3 y4 y5 y6, k35 y0 y1 y2 y3 y4 y5 y6 → k35' y0 y1 y2 y3 y4 y5 y6 → k35'' y0 y1 y2 y3 y4 y5 y6) {Q Q' Q'' : Int32 → kx_S → Prop} (hQ : ∀ y0 y1, Q y0 y1 → Q' y0 y1 → Q'' y0 y1) : ∀ (l0 : Nat) (l1 : Int32) (l2 : Int32) (l3 : Int32) (l4 : Nat) (l5 : Int32) (σ : kx_S), wX11_countJams_93 k35 Q l0 l1 l2 l3 l4 l5 σ → vX11_countJams_93 k35' Q' l0 l1 l2 l3 l4 l5 σ → wX11_countJams_93 k35'' Q'' l0 l1 l2 l3 l4 l5 σ := by
  intro l0 l1 l2 l3 l4 l5 σ h v
  unfold wX11_countJams_93 at h
  unfold vX11_countJams_93 at v
  unfold wX11_countJams_93
  intro v3 e1
  have h := h v3 e1
  have v := v v3 e1
  exact hk35 _ _ _ _ _ _ _ h v
set_option maxRecDepth 100000 in
set_option maxHeartbeats 4000000 in
theorem jaX11_countJams_93 {k35 k35' : Nat → Int32 → Int32 → Int32 → Nat → Int32 → kx_S → Prop} (hk35 : ∀ y0 y1 y2 y3 y4 y5 y6, k35 y0 y1 y2 y3 y4 y5 y6 → k35' y0 y1 y2 y3 y4 y5 y6) {Q Q' : Int32 → kx_S → Prop} (hQ : ∀ y0 y1, Q y0 y1 → Q' y0 y1) : ∀ (l0 : Nat) (l1 : Int32) (l2 : Int32) (l3 : Int32) (l4 : Nat) (l5 : Int32) (σ : kx_S), wX11_countJams_93 k35 Q l0 l1 l2 l3 l4 l5 σ → vX11_countJams_93 k35' Q' l0 l1 l2 l3 l4 l5 σ := by
  intro l0 l1 l2 l3 l4 l5 σ h
  unfold wX11_countJams_93 at h
  unfold vX11_countJams_93
  intro v3 e1
  have h := h v3 e1
  exact hk35 _ _ _ _ _ _ _ h
set_option maxRecDepth 100000 in
set_option maxHeartbeats 4000000 in
theorem jfX11_countJams_93 {I : kx_S → Prop} (W : fw_ I []) {k35 : Nat → Int32 → Int32 → Int32 → Nat → Int32 → kx_S → Prop} (hk35 : ∀ y0 y1 y2 y3 y4 y5 y6, I y6 → k35 y0 y1 y2 y3 y4 y5 y6) {Q : Int32 → kx_S → Prop} (hQ : ∀ y0 y1, I y1 → Q y0 y1) : ∀ (l0 : Nat) (l1 : Int32) (l2 : Int32) (l3 : Int32) (l4 : Nat) (l5 : Int32) (σ : kx_S), I σ → vX11_countJams_93 k35 Q l0 l1 l2 l3 l4 l5 σ := by
  intro l0 l1 l2 l3 l4 l5 σ i
  unfold vX11_countJams_93
  intro v3 e1
  exact hk35 _ _ _ _ _ _ _ i

section
def vX11_melt (l0 : Nat) (l1 : Int32) (l2 : Int32) (σ : kx_S) (Q : Int32 → kx_S → Prop) (QX : String → kx_S → Prop) : Prop := xt σ l0 = 13 → vX11_reachAt l0 l1 σ (fun b2 σ1 => vX11_isWithin l2 0 500 σ1 (fun r5 σ4 => ((¬ r5 = 0 → xt σ4 b2 = 10 → ∀ v8, v8 = xi σ4 164 b2 → ∀ σ9, σ9 = xsi σ4 164 b2 l2 → Q v8 σ9) ∧ (r5 = 0 → Q (-1) σ4)))) QX
set_option maxRecDepth 100000 in
set_option maxHeartbeats 4000000 in
theorem jcX11_melt {Q Q' Q'' : Int32 → kx_S → Prop} (hQ : ∀ y0 y1, Q y0 y1 → Q' y0 y1 → Q'' y0 y1) {QX QX' QX'' : String → kx_S → Prop} (hX : ∀ y0 y1, QX y0 y1 → QX' y0 y1 → QX'' y0 y1) : ∀ (l0 : Nat) (l1 : Int32) (l2 : Int32) (σ : kx_S), wX11_melt l0 l1 l2 σ Q QX → vX11_melt l0 l1 l2 σ Q' QX' → wX11_melt l0 l1 l2 σ Q'' QX'' := by
  intro l0 l1 l2 σ h v
  unfold wX11_melt at h
  unfold vX11_melt at v
  unfold wX11_melt
  refine ⟨h.1, ?_⟩
  have v := v h.1
  have h := h.2
  refine jcX11_reachAt ?_ hX _ _ _ h v
  intro b2 σ1 h v
  refine jcX11_isWithin ?_ _ _ _ _ h v
  intro r5 σ4 h v
  refine ⟨?_, ?_⟩
  · have h := h.1
    have v := v.1
    intro e2
    have h := h e2
    have v := v e2
    refine ⟨h.1, ?_⟩
    have v := v h.1
    have h := h.2
    intro v8 e4
    have h := h v8 e4
    have v := v v8 e4
    intro σ9 e5
    have h := h σ9 e5
    have v := v σ9 e5
    exact hQ _ _ h v
  · have h := h.2
    have v := v.2
    intro e6
    have h := h e6
    have v := v e6
    exact hQ _ _ h v
set_option maxRecDepth 100000 in
set_option maxHeartbeats 4000000 in
theorem jaX11_melt {Q Q' : Int32 → kx_S → Prop} (hQ : ∀ y0 y1, Q y0 y1 → Q' y0 y1) {QX QX' : String → kx_S → Prop} (hX : ∀ y0 y1, QX y0 y1 → QX' y0 y1) : ∀ (l0 : Nat) (l1 : Int32) (l2 : Int32) (σ : kx_S), wX11_melt l0 l1 l2 σ Q QX → vX11_melt l0 l1 l2 σ Q' QX' := by
  intro l0 l1 l2 σ h
  unfold wX11_melt at h
  unfold vX11_melt
  intro e1
  have h := h.2
  refine jaX11_reachAt ?_ hX _ _ _ h
  intro b2 σ1 h
  refine jaX11_isWithin ?_ _ _ _ _ h
  intro r5 σ4 h
  refine ⟨?_, ?_⟩
  · have h := h.1
    intro e2
    have h := h e2
    intro e3
    have h := h.2
    intro v8 e4
    have h := h v8 e4
    intro σ9 e5
    have h := h σ9 e5
    exact hQ _ _ h
  · have h := h.2
    intro e6
    have h := h e6
    exact hQ _ _ h
set_option maxRecDepth 100000 in
set_option maxHeartbeats 4000000 in
theorem jfX11_melt {I : kx_S → Prop} (W : fw_ I [164, 1005]) {Q : Int32 → kx_S → Prop} (hQ : ∀ y0 y1, I y1 → Q y0 y1) {QX : String → kx_S → Prop} (hX : ∀ y0 y1, I y1 → QX y0 y1) : ∀ (l0 : Nat) (l1 : Int32) (l2 : Int32) (σ : kx_S), I σ → vX11_melt l0 l1 l2 σ Q QX := by
  intro l0 l1 l2 σ i
  unfold vX11_melt
  intro e1
  refine jfX11_reachAt (I := I) (fw_sub W (by decide)) ?_ hX _ _ _ i
  intro b2 σ1 iσ1
  refine jfX11_isWithin (I := I) (fw_sub W (by decide)) ?_ _ _ _ _ iσ1
  intro r5 σ4 iσ4
  refine ⟨?_, ?_⟩
  · intro e2
    intro e3
    intro v8 e4
    intro σ9 e5
    have iσ9 : I σ9 := by rw [e5]; exact ((W _ iσ4).1 164 (by decide)).1 _ _
    exact hQ _ _ iσ9
  · intro e6
    exact hQ _ _ iσ4
def vX11_boom_39 (Q : Int32 → kx_S → Prop) (QX : String → kx_S → Prop) (l2 : Int32) (l3 : Int32) (l4 : Nat) (σ : kx_S) : Prop := xt σ l4 = 10 → ∀ a2, xr σ 172 l4 = some a2 → xt σ a2 = 2 → ∀ σ5, σ5 = xsi σ 34 a2 (l2 &&& 65535) → ∀ a8, xr σ5 172 l4 = some a8 → xt σ5 a8 = 2 → ∀ σ11, σ11 = xsi σ5 35 a8 l3 → Q 1 σ11
set_option maxRecDepth 100000 in
set_option maxHeartbeats 4000000 in
theorem jcX11_boom_39 {Q Q' Q'' : Int32 → kx_S → Prop} (hQ : ∀ y0 y1, Q y0 y1 → Q' y0 y1 → Q'' y0 y1) {QX QX' QX'' : String → kx_S → Prop} (hX : ∀ y0 y1, QX y0 y1 → QX' y0 y1 → QX'' y0 y1) : ∀ (l2 : Int32) (l3 : Int32) (l4 : Nat) (σ : kx_S), wX11_boom_39 Q QX l2 l3 l4 σ → vX11_boom_39 Q' QX' l2 l3 l4 σ → wX11_boom_39 Q'' QX'' l2 l3 l4 σ := by
  intro l2 l3 l4 σ h v
  unfold wX11_boom_39 at h
  unfold vX11_boom_39 at v
  unfold wX11_boom_39
  refine ⟨h.1, ?_⟩
  have v := v h.1
  have h := h.2
  obtain ⟨a2, e2, h⟩ := h
  refine ⟨a2, e2, ?_⟩
  have v := v a2 e2
  refine ⟨h.1, ?_⟩
  have v := v h.1
  have h := h.2
  intro σ5 e4
  have h := h σ5 e4
  have v := v σ5 e4
  obtain ⟨a8, e5, h⟩ := h
  refine ⟨a8, e5, ?_⟩
  have v := v a8 e5
  refine ⟨h.1, ?_⟩
  have v := v h.1
  have h := h.2
  intro σ11 e7
  have h := h σ11 e7
  have v := v σ11 e7
  exact hQ _ _ h v
set_option maxRecDepth 100000 in
set_option maxHeartbeats 4000000 in
theorem jaX11_boom_39 {Q Q' : Int32 → kx_S → Prop} (hQ : ∀ y0 y1, Q y0 y1 → Q' y0 y1) {QX QX' : String → kx_S → Prop} (hX : ∀ y0 y1, QX y0 y1 → QX' y0 y1) : ∀ (l2 : Int32) (l3 : Int32) (l4 : Nat) (σ : kx_S), wX11_boom_39 Q QX l2 l3 l4 σ → vX11_boom_39 Q' QX' l2 l3 l4 σ := by
  intro l2 l3 l4 σ h
  unfold wX11_boom_39 at h
  unfold vX11_boom_39
  intro e1
  have h := h.2
  obtain ⟨a2', e2, h⟩ := h
  intro a2 e3
  have x9 : a2' = a2 := Option.some.inj (e2.symm.trans e3)
  rw [x9] at h
  intro e4
  have h := h.2
  intro σ5 e5
  have h := h σ5 e5
  obtain ⟨a8', e6, h⟩ := h
  intro a8 e7
  have x9 : a8' = a8 := Option.some.inj (e6.symm.trans e7)
  rw [x9] at h
  intro e8
  have h := h.2
  intro σ11 e9
  have h := h σ11 e9
  exact hQ _ _ h
set_option maxRecDepth 100000 in
set_option maxHeartbeats 4000000 in
theorem jfX11_boom_39 {I : kx_S → Prop} (W : fw_ I [34, 35]) {Q : Int32 → kx_S → Prop} (hQ : ∀ y0 y1, I y1 → Q y0 y1) {QX : String → kx_S → Prop} (hX : ∀ y0 y1, I y1 → QX y0 y1) : ∀ (l2 : Int32) (l3 : Int32) (l4 : Nat) (σ : kx_S), I σ → vX11_boom_39 Q QX l2 l3 l4 σ := by
  intro l2 l3 l4 σ i
  unfold vX11_boom_39
  intro e1
  intro a2 e2
  intro e3
  intro σ5 e4
  have iσ5 : I σ5 := by rw [e4]; exact ((W _ i).1 34 (by decide)).1 _ _
  intro a8 e5
  intro e6
  intro σ11 e7
  have iσ11 : I σ11 := by rw [e7]; exact ((W _ iσ5).1 35 (by decide)).1 _ _
  exact hQ _ _ iσ11
def vX11_boom (l0 : Nat) (l1 : Int32) (l2 : Int32) (l3 : Int32) (σ : kx_S) (Q : Int32 → kx_S → Prop) (QX : String → kx_S → Prop) : Prop := xt σ l0 = 13 → vX11_reachAt l0 l1 σ (fun b16 σ15 => vX11_isWithin l3 1 100 σ15 (fun r19 σ18 => ((¬ r19 = 0 → xt σ18 b16 = 10 → ((∀ a23, xr σ18 172 b16 = some a23 → vX11_boom_39 Q QX l2 l3 b16 σ18) ∧ (xr σ18 172 b16 = none → xc σ18 < kx_N → ∀ p25, xt σ18 p25 = 0 → p25 ≠ xz σ18 → ∀ σ28, σ28 = xnew σ18 p25 2 → vX0_init p25 σ28 (fun σ30 => xt σ30 b16 = 10 → ∀ σ32, σ32 = xsr σ30 172 b16 (some p25) → vX11_boom_39 Q QX l2 l3 b16 σ32)))) ∧ (r19 = 0 → Q 0 σ18)))) QX
set_option maxRecDepth 100000 in
set_option maxHeartbeats 4000000 in
theorem jcX11_boom {Q Q' Q'' : Int32 → kx_S → Prop} (hQ : ∀ y0 y1, Q y0 y1 → Q' y0 y1 → Q'' y0 y1) {QX QX' QX'' : String → kx_S → Prop} (hX : ∀ y0 y1, QX y0 y1 → QX' y0 y1 → QX'' y0 y1) : ∀ (l0 : Nat) (l1 : Int32) (l2 : Int32) (l3 : Int32) (σ : kx_S), wX11_boom l0 l1 l2 l3 σ Q QX → vX11_boom l0 l1 l2 l3 σ Q' QX' → wX11_boom l0 l1 l2 l3 σ Q'' QX'' := by
  intro l0 l1 l2 l3 σ h v
  unfold wX11_boom at h
  unfold vX11_boom at v
  unfold wX11_boom
  refine ⟨h.1, ?_⟩
  have v := v h.1
  have h := h.2
  refine jcX11_reachAt ?_ hX _ _ _ h v
  intro b16 σ15 h v
  refine jcX11_isWithin ?_ _ _ _ _ h v
  intro r19 σ18 h v
  refine ⟨?_, ?_⟩
  · have h := h.1
    have v := v.1
    intro e2
    have h := h e2
    have v := v e2
    refine ⟨h.1, ?_⟩
    have v := v h.1
    have h := h.2
    refine ⟨?_, ?_⟩
    · have h := h.1
      have v := v.1
      intro a23 e4
      have h := h a23 e4
      have v := v a23 e4
      exact jcX11_boom_39 hQ hX _ _ _ _ h v
    · have h := h.2
      have v := v.2
      intro e5
      have h := h e5
      have v := v e5
      refine ⟨h.1, ?_⟩
      have v := v h.1
      have h := h.2
      intro p25 e7 e8
      have h := h p25 e7 e8
      have v := v p25 e7 e8
      intro σ28 e9
      have h := h σ28 e9
      have v := v σ28 e9
      refine jcX0_init ?_ _ _ h v
      intro σ30 h v
      refine ⟨h.1, ?_⟩
      have v := v h.1
      have h := h.2
      intro σ32 e11
      have h := h σ32 e11
      have v := v σ32 e11
      exact jcX11_boom_39 hQ hX _ _ _ _ h v
  · have h := h.2
    have v := v.2
    intro e12
    have h := h e12
    have v := v e12
    exact hQ _ _ h v
set_option maxRecDepth 100000 in
set_option maxHeartbeats 4000000 in
theorem jaX11_boom {Q Q' : Int32 → kx_S → Prop} (hQ : ∀ y0 y1, Q y0 y1 → Q' y0 y1) {QX QX' : String → kx_S → Prop} (hX : ∀ y0 y1, QX y0 y1 → QX' y0 y1) : ∀ (l0 : Nat) (l1 : Int32) (l2 : Int32) (l3 : Int32) (σ : kx_S), wX11_boom l0 l1 l2 l3 σ Q QX → vX11_boom l0 l1 l2 l3 σ Q' QX' := by
  intro l0 l1 l2 l3 σ h
  unfold wX11_boom at h
  unfold vX11_boom
  intro e1
  have h := h.2
  refine jaX11_reachAt ?_ hX _ _ _ h
  intro b16 σ15 h
  refine jaX11_isWithin ?_ _ _ _ _ h
  intro r19 σ18 h
  refine ⟨?_, ?_⟩
  · have h := h.1
    intro e2
    have h := h e2
    intro e3
    have h := h.2
    refine ⟨?_, ?_⟩
    · have h := h.1
      intro a23 e4
      have h := h a23 e4
      exact jaX11_boom_39 hQ hX _ _ _ _ h
    · have h := h.2
      intro e5
      have h := h e5
      intro e6
      have h := h.2
      intro p25 e7 e8
      have h := h p25 e7 e8
      intro σ28 e9
      have h := h σ28 e9
      refine jaX0_init ?_ _ _ h
      intro σ30 h
      intro e10
      have h := h.2
      intro σ32 e11
      have h := h σ32 e11
      exact jaX11_boom_39 hQ hX _ _ _ _ h
  · have h := h.2
    intro e12
    have h := h e12
    exact hQ _ _ h
set_option maxRecDepth 100000 in
set_option maxHeartbeats 4000000 in
theorem jfX11_boom {I : kx_S → Prop} (W : fw_ I [16, 17, 32, 33, 34, 35, 172, 1005, 1101, 1102]) {Q : Int32 → kx_S → Prop} (hQ : ∀ y0 y1, I y1 → Q y0 y1) {QX : String → kx_S → Prop} (hX : ∀ y0 y1, I y1 → QX y0 y1) : ∀ (l0 : Nat) (l1 : Int32) (l2 : Int32) (l3 : Int32) (σ : kx_S), I σ → vX11_boom l0 l1 l2 l3 σ Q QX := by
  intro l0 l1 l2 l3 σ i
  unfold vX11_boom
  intro e1
  refine jfX11_reachAt (I := I) (fw_sub W (by decide)) ?_ hX _ _ _ i
  intro b16 σ15 iσ15
  refine jfX11_isWithin (I := I) (fw_sub W (by decide)) ?_ _ _ _ _ iσ15
  intro r19 σ18 iσ18
  refine ⟨?_, ?_⟩
  · intro e2
    intro e3
    refine ⟨?_, ?_⟩
    · intro a23 e4
      exact jfX11_boom_39 (I := I) (fw_sub W (by decide)) hQ hX _ _ _ _ iσ18
    · intro e5
      intro e6
      intro p25 e7 e8
      intro σ28 e9
      have iσ28 : I σ28 := by rw [e9]; exact (W _ iσ18).2.2.2.2.2.2.1 2 (by decide) _ e7
      refine jfX0_init (I := I) (fw_sub W (by decide)) ?_ _ _ iσ28
      intro σ30 iσ30
      intro e10
      intro σ32 e11
      have iσ32 : I σ32 := by rw [e11]; exact ((W _ iσ30).1 172 (by decide)).2.1 _ _
      exact jfX11_boom_39 (I := I) (fw_sub W (by decide)) hQ hX _ _ _ _ iσ32
  · intro e12
    exact hQ _ _ iσ18
def vX11_watch (l0 : Nat) (l1 : Int32) (l2 : Int32) (σ : kx_S) (Q : Int32 → kx_S → Prop) (QX : String → kx_S → Prop) : Prop := xt σ l0 = 13 → vX11_reachAt l0 l1 σ (fun b2 σ1 => xt σ1 b2 = 10 → ∀ v5, v5 = xi σ1 171 b2 → ((narrow .boolean (.int l2) = .int l2 ∧ fits .boolean (.int l2) = true)) → ∀ σ7, σ7 = xsi σ1 171 b2 l2 → narrow .boolean (.int v5) = .int v5 → Q v5 σ7) QX
set_option maxRecDepth 100000 in
set_option maxHeartbeats 4000000 in
theorem jcX11_watch {Q Q' Q'' : Int32 → kx_S → Prop} (hQ : ∀ y0 y1, Q y0 y1 → Q' y0 y1 → Q'' y0 y1) {QX QX' QX'' : String → kx_S → Prop} (hX : ∀ y0 y1, QX y0 y1 → QX' y0 y1 → QX'' y0 y1) : ∀ (l0 : Nat) (l1 : Int32) (l2 : Int32) (σ : kx_S), wX11_watch l0 l1 l2 σ Q QX → vX11_watch l0 l1 l2 σ Q' QX' → wX11_watch l0 l1 l2 σ Q'' QX'' := by
  intro l0 l1 l2 σ h v
  unfold wX11_watch at h
  unfold vX11_watch at v
  unfold wX11_watch
  refine ⟨h.1, ?_⟩
  have v := v h.1
  have h := h.2
  refine jcX11_reachAt ?_ hX _ _ _ h v
  intro b2 σ1 h v
  refine ⟨h.1, ?_⟩
  have v := v h.1
  have h := h.2
  intro v5 e3
  have h := h v5 e3
  have v := v v5 e3
  refine ⟨h.1, ?_⟩
  have v := v h.1
  have h := h.2
  intro σ7 e5
  have h := h σ7 e5
  have v := v σ7 e5
  refine ⟨h.1, ?_⟩
  have v := v h.1
  have h := h.2
  exact hQ _ _ h v
set_option maxRecDepth 100000 in
set_option maxHeartbeats 4000000 in
theorem jaX11_watch {Q Q' : Int32 → kx_S → Prop} (hQ : ∀ y0 y1, Q y0 y1 → Q' y0 y1) {QX QX' : String → kx_S → Prop} (hX : ∀ y0 y1, QX y0 y1 → QX' y0 y1) : ∀ (l0 : Nat) (l1 : Int32) (l2 : Int32) (σ : kx_S), wX11_watch l0 l1 l2 σ Q QX → vX11_watch l0 l1 l2 σ Q' QX' := by
  intro l0 l1 l2 σ h
  unfold wX11_watch at h
  unfold vX11_watch
  intro e1
  have h := h.2
  refine jaX11_reachAt ?_ hX _ _ _ h
  intro b2 σ1 h
  intro e2
  have h := h.2
  intro v5 e3
  have h := h v5 e3
  intro e4
  have h := h.2
  intro σ7 e5
  have h := h σ7 e5
  intro e6
  have h := h.2
  exact hQ _ _ h
set_option maxRecDepth 100000 in
set_option maxHeartbeats 4000000 in
theorem jfX11_watch {I : kx_S → Prop} (W : fw_ I [171, 1005]) {Q : Int32 → kx_S → Prop} (hQ : ∀ y0 y1, I y1 → Q y0 y1) {QX : String → kx_S → Prop} (hX : ∀ y0 y1, I y1 → QX y0 y1) : ∀ (l0 : Nat) (l1 : Int32) (l2 : Int32) (σ : kx_S), I σ → vX11_watch l0 l1 l2 σ Q QX := by
  intro l0 l1 l2 σ i
  unfold vX11_watch
  intro e1
  refine jfX11_reachAt (I := I) (fw_sub W (by decide)) ?_ hX _ _ _ i
  intro b2 σ1 iσ1
  intro e2
  intro v5 e3
  intro e4
  intro σ7 e5
  have iσ7 : I σ7 := by rw [e5]; exact ((W _ iσ1).1 171 (by decide)).1 _ _
  intro e6
  exact hQ _ _ iσ7
def vX11_newCrew (l0 : Nat) (l1 : Nat) (σ : kx_S) (Q : Int32 → kx_S → Prop) : Prop := xt σ l0 = 13 → ∀ a2, xr σ 211 l0 = some a2 → xt σ a2 = 1 → vJx4a65c_size_8abf5 a2 σ (fun r5 σ4 => ((r5 < 6 → xt σ4 l0 = 13 → ∀ a9, xr σ4 211 l0 = some a9 → xc σ4 < kx_N → ∀ p12, xt σ4 p12 = 0 → p12 ≠ xz σ4 → ∀ σ15, σ15 = xnew σ4 p12 4 → xt σ15 l0 = 13 → vX2_init p12 l1 (xi σ15 217 l0) σ15 (fun σ18 => xt σ18 a9 = 1 → vJx4a65c_add_9ea2d a9 p12 σ18 (fun r20 σ19 => xt σ19 l0 = 13 → ∀ a23, xr σ19 211 l0 = some a23 → xt σ19 a23 = 1 → vJx4a65c_size_8abf5 a23 σ19 (fun r26 σ25 => Q (r26 - 1) σ25)))) ∧ (¬ (r5 < 6) → Q (-1) σ4)))
set_option maxRecDepth 100000 in
set_option maxHeartbeats 4000000 in
theorem jcX11_newCrew {Q Q' Q'' : Int32 → kx_S → Prop} (hQ : ∀ y0 y1, Q y0 y1 → Q' y0 y1 → Q'' y0 y1) : ∀ (l0 : Nat) (l1 : Nat) (σ : kx_S), wX11_newCrew l0 l1 σ Q → vX11_newCrew l0 l1 σ Q' → wX11_newCrew l0 l1 σ Q'' := by
  intro l0 l1 σ h v
  unfold wX11_newCrew at h
  unfold vX11_newCrew at v
  unfold wX11_newCrew
  refine ⟨h.1, ?_⟩
  have v := v h.1
  have h := h.2
  obtain ⟨a2, e2, h⟩ := h
  refine ⟨a2, e2, ?_⟩
  have v := v a2 e2
  refine ⟨h.1, ?_⟩
  have v := v h.1
  have h := h.2
  refine jcJx4a65c_size_8abf5 ?_ _ _ h v
  intro r5 σ4 h v
  refine ⟨?_, ?_⟩
  · have h := h.1
    have v := v.1
    intro e4
    have h := h e4
    have v := v e4
    refine ⟨h.1, ?_⟩
    have v := v h.1
    have h := h.2
    obtain ⟨a9, e6, h⟩ := h
    refine ⟨a9, e6, ?_⟩
    have v := v a9 e6
    refine ⟨h.1, ?_⟩
    have v := v h.1
    have h := h.2
    intro p12 e8 e9
    have h := h p12 e8 e9
    have v := v p12 e8 e9
    intro σ15 e10
    have h := h σ15 e10
    have v := v σ15 e10
    refine ⟨h.1, ?_⟩
    have v := v h.1
    have h := h.2
    refine jcX2_init ?_ _ _ _ _ h v
    intro σ18 h v
    refine ⟨h.1, ?_⟩
    have v := v h.1
    have h := h.2
    refine jcJx4a65c_add_9ea2d ?_ _ _ _ h v
    intro r20 σ19 h v
    refine ⟨h.1, ?_⟩
    have v := v h.1
    have h := h.2
    obtain ⟨a23, e14, h⟩ := h
    refine ⟨a23, e14, ?_⟩
    have v := v a23 e14
    refine ⟨h.1, ?_⟩
    have v := v h.1
    have h := h.2
    refine jcJx4a65c_size_8abf5 ?_ _ _ h v
    intro r26 σ25 h v
    exact hQ _ _ h v
  · have h := h.2
    have v := v.2
    intro e16
    have h := h e16
    have v := v e16
    exact hQ _ _ h v
set_option maxRecDepth 100000 in
set_option maxHeartbeats 4000000 in
theorem jaX11_newCrew {Q Q' : Int32 → kx_S → Prop} (hQ : ∀ y0 y1, Q y0 y1 → Q' y0 y1) : ∀ (l0 : Nat) (l1 : Nat) (σ : kx_S), wX11_newCrew l0 l1 σ Q → vX11_newCrew l0 l1 σ Q' := by
  intro l0 l1 σ h
  unfold wX11_newCrew at h
  unfold vX11_newCrew
  intro e1
  have h := h.2
  obtain ⟨a2', e2, h⟩ := h
  intro a2 e3
  have x9 : a2' = a2 := Option.some.inj (e2.symm.trans e3)
  rw [x9] at h
  intro e4
  have h := h.2
  refine jaJx4a65c_size_8abf5 ?_ _ _ h
  intro r5 σ4 h
  refine ⟨?_, ?_⟩
  · have h := h.1
    intro e5
    have h := h e5
    intro e6
    have h := h.2
    obtain ⟨a9', e7, h⟩ := h
    intro a9 e8
    have x9 : a9' = a9 := Option.some.inj (e7.symm.trans e8)
    rw [x9] at h
    intro e9
    have h := h.2
    intro p12 e10 e11
    have h := h p12 e10 e11
    intro σ15 e12
    have h := h σ15 e12
    intro e13
    have h := h.2
    refine jaX2_init ?_ _ _ _ _ h
    intro σ18 h
    intro e14
    have h := h.2
    refine jaJx4a65c_add_9ea2d ?_ _ _ _ h
    intro r20 σ19 h
    intro e15
    have h := h.2
    obtain ⟨a23', e16, h⟩ := h
    intro a23 e17
    have x9 : a23' = a23 := Option.some.inj (e16.symm.trans e17)
    rw [x9] at h
    intro e18
    have h := h.2
    refine jaJx4a65c_size_8abf5 ?_ _ _ h
    intro r26 σ25 h
    exact hQ _ _ h
  · have h := h.2
    intro e19
    have h := h e19
    exact hQ _ _ h
set_option maxRecDepth 100000 in
set_option maxHeartbeats 4000000 in
theorem jfX11_newCrew {I : kx_S → Prop} (W : fw_ I [16, 17, 18, 64, 65, 1003, 1104, 1222]) {Q : Int32 → kx_S → Prop} (hQ : ∀ y0 y1, I y1 → Q y0 y1) : ∀ (l0 : Nat) (l1 : Nat) (σ : kx_S), I σ → vX11_newCrew l0 l1 σ Q := by
  intro l0 l1 σ i
  unfold vX11_newCrew
  intro e1
  intro a2 e2
  intro e3
  refine jfJx4a65c_size_8abf5 (I := I) (fw_sub W (by decide)) ?_ _ _ i
  intro r5 σ4 iσ4
  refine ⟨?_, ?_⟩
  · intro e4
    intro e5
    intro a9 e6
    intro e7
    intro p12 e8 e9
    intro σ15 e10
    have iσ15 : I σ15 := by rw [e10]; exact (W _ iσ4).2.2.2.2.2.2.1 4 (by decide) _ e8
    intro e11
    refine jfX2_init (I := I) (fw_sub W (by decide)) ?_ _ _ _ _ iσ15
    intro σ18 iσ18
    intro e12
    refine jfJx4a65c_add_9ea2d (I := I) (fw_sub W (by decide)) ?_ _ _ _ iσ18
    intro r20 σ19 iσ19
    intro e13
    intro a23 e14
    intro e15
    refine jfJx4a65c_size_8abf5 (I := I) (fw_sub W (by decide)) ?_ _ _ iσ19
    intro r26 σ25 iσ25
    exact hQ _ _ iσ25
  · intro e16
    exact hQ _ _ iσ4
def vX11_crew (l0 : Nat) (l1 : Int32) (l2 : Int32) (σ : kx_S) (Q : Int32 → kx_S → Prop) (QX : String → kx_S → Prop) : Prop := xt σ l0 = 13 → vX11_reachAt l0 l2 σ (fun b2 σ1 => ((¬ l1 = (-1) → xt σ1 l0 = 13 → ∀ a6, xr σ1 211 l0 = some a6 → xt σ1 a6 = 1 → vJx4a65c_size_8abf5 a6 σ1 (fun r9 σ8 => vX11_isWithin l1 0 (r9 - 1) σ8 (fun r12 σ11 => ((¬ r12 = 0 → xt σ11 l0 = 13 → ∀ a15, xr σ11 211 l0 = some a15 → xt σ11 a15 = 1 → vJx4a65c_get_915e3 a15 l1 σ11 (fun q18 σ17 => ∀ a20, q18 = some a20 → xt σ17 a20 = 4 → ∀ a23, xr σ17 64 a20 = some a23 → xt σ17 a23 = 10 → (((xi σ17 160 a23) = l2 → Q l1 σ17) ∧ (¬ ((xi σ17 160 a23) = l2) → xt σ17 l0 = 13 → vX2_come a20 b2 (xi σ17 217 l0) σ17 (fun σ28 => Q l1 σ28))))) ∧ (r12 = 0 → Q (-1) σ11))))) ∧ (l1 = (-1) → xt σ1 l0 = 13 → vX11_newCrew l0 b2 σ1 (fun r30 σ29 => Q r30 σ29)))) QX
set_option maxRecDepth 100000 in
set_option maxHeartbeats 4000000 in
theorem jcX11_crew {Q Q' Q'' : Int32 → kx_S → Prop} (hQ : ∀ y0 y1, Q y0 y1 → Q' y0 y1 → Q'' y0 y1) {QX QX' QX'' : String → kx_S → Prop} (hX : ∀ y0 y1, QX y0 y1 → QX' y0 y1 → QX'' y0 y1) : ∀ (l0 : Nat) (l1 : Int32) (l2 : Int32) (σ : kx_S), wX11_crew l0 l1 l2 σ Q QX → vX11_crew l0 l1 l2 σ Q' QX' → wX11_crew l0 l1 l2 σ Q'' QX'' := by
  intro l0 l1 l2 σ h v
  unfold wX11_crew at h
  unfold vX11_crew at v
  unfold wX11_crew
  refine ⟨h.1, ?_⟩
  have v := v h.1
  have h := h.2
  refine jcX11_reachAt ?_ hX _ _ _ h v
  intro b2 σ1 h v
  refine ⟨?_, ?_⟩
  · have h := h.1
    have v := v.1
    intro e2
    have h := h e2
    have v := v e2
    refine ⟨h.1, ?_⟩
    have v := v h.1
    have h := h.2
    obtain ⟨a6, e4, h⟩ := h
    refine ⟨a6, e4, ?_⟩
    have v := v a6 e4
    refine ⟨h.1, ?_⟩
    have v := v h.1
    have h := h.2
    refine jcJx4a65c_size_8abf5 ?_ _ _ h v
    intro r9 σ8 h v
    refine jcX11_isWithin ?_ _ _ _ _ h v
    intro r12 σ11 h v
    refine ⟨?_, ?_⟩
    · have h := h.1
      have v := v.1
      intro e6
      have h := h e6
      have v := v e6
      refine ⟨h.1, ?_⟩
      have v := v h.1
      have h := h.2
      obtain ⟨a15, e8, h⟩ := h
      refine ⟨a15, e8, ?_⟩
      have v := v a15 e8
      refine ⟨h.1, ?_⟩
      have v := v h.1
      have h := h.2
      refine jcJx4a65c_get_915e3 ?_ _ _ _ h v
      intro q18 σ17 h v
      obtain ⟨a20, e10, h⟩ := h
      refine ⟨a20, e10, ?_⟩
      have v := v a20 e10
      refine ⟨h.1, ?_⟩
      have v := v h.1
      have h := h.2
      obtain ⟨a23, e12, h⟩ := h
      refine ⟨a23, e12, ?_⟩
      have v := v a23 e12
      refine ⟨h.1, ?_⟩
      have v := v h.1
      have h := h.2
      refine ⟨?_, ?_⟩
      · have h := h.1
        have v := v.1
        intro e14
        have h := h e14
        have v := v e14
        exact hQ _ _ h v
      · have h := h.2
        have v := v.2
        intro e15
        have h := h e15
        have v := v e15
        refine ⟨h.1, ?_⟩
        have v := v h.1
        have h := h.2
        refine jcX2_come ?_ _ _ _ _ h v
        intro σ28 h v
        exact hQ _ _ h v
    · have h := h.2
      have v := v.2
      intro e17
      have h := h e17
      have v := v e17
      exact hQ _ _ h v
  · have h := h.2
    have v := v.2
    intro e18
    have h := h e18
    have v := v e18
    refine ⟨h.1, ?_⟩
    have v := v h.1
    have h := h.2
    refine jcX11_newCrew ?_ _ _ _ h v
    intro r30 σ29 h v
    exact hQ _ _ h v
set_option maxRecDepth 100000 in
set_option maxHeartbeats 4000000 in
theorem jaX11_crew {Q Q' : Int32 → kx_S → Prop} (hQ : ∀ y0 y1, Q y0 y1 → Q' y0 y1) {QX QX' : String → kx_S → Prop} (hX : ∀ y0 y1, QX y0 y1 → QX' y0 y1) : ∀ (l0 : Nat) (l1 : Int32) (l2 : Int32) (σ : kx_S), wX11_crew l0 l1 l2 σ Q QX → vX11_crew l0 l1 l2 σ Q' QX' := by
  intro l0 l1 l2 σ h
  unfold wX11_crew at h
  unfold vX11_crew
  intro e1
  have h := h.2
  refine jaX11_reachAt ?_ hX _ _ _ h
  intro b2 σ1 h
  refine ⟨?_, ?_⟩
  · have h := h.1
    intro e2
    have h := h e2
    intro e3
    have h := h.2
    obtain ⟨a6', e4, h⟩ := h
    intro a6 e5
    have x9 : a6' = a6 := Option.some.inj (e4.symm.trans e5)
    rw [x9] at h
    intro e6
    have h := h.2
    refine jaJx4a65c_size_8abf5 ?_ _ _ h
    intro r9 σ8 h
    refine jaX11_isWithin ?_ _ _ _ _ h
    intro r12 σ11 h
    refine ⟨?_, ?_⟩
    · have h := h.1
      intro e7
      have h := h e7
      intro e8
      have h := h.2
      obtain ⟨a15', e9, h⟩ := h
      intro a15 e10
      have x9 : a15' = a15 := Option.some.inj (e9.symm.trans e10)
      rw [x9] at h
      intro e11
      have h := h.2
      refine jaJx4a65c_get_915e3 ?_ _ _ _ h
      intro q18 σ17 h
      obtain ⟨a20', e12, h⟩ := h
      intro a20 e13
      have x9 : a20' = a20 := Option.some.inj (e12.symm.trans e13)
      rw [x9] at h
      intro e14
      have h := h.2
      obtain ⟨a23', e15, h⟩ := h
      intro a23 e16
      have x9 : a23' = a23 := Option.some.inj (e15.symm.trans e16)
      rw [x9] at h
      intro e17
      have h := h.2
      refine ⟨?_, ?_⟩
      · have h := h.1
        intro e18
        have h := h e18
        exact hQ _ _ h
      · have h := h.2
        intro e19
        have h := h e19
        intro e20
        have h := h.2
        refine jaX2_come ?_ _ _ _ _ h
        intro σ28 h
        exact hQ _ _ h
    · have h := h.2
      intro e21
      have h := h e21
      exact hQ _ _ h
  · have h := h.2
    intro e22
    have h := h e22
    intro e23
    have h := h.2
    refine jaX11_newCrew ?_ _ _ _ h
    intro r30 σ29 h
    exact hQ _ _ h
set_option maxRecDepth 100000 in
set_option maxHeartbeats 4000000 in
theorem jfX11_crew {I : kx_S → Prop} (W : fw_ I [16, 17, 18, 64, 65, 1003, 1005, 1104, 1222]) {Q : Int32 → kx_S → Prop} (hQ : ∀ y0 y1, I y1 → Q y0 y1) {QX : String → kx_S → Prop} (hX : ∀ y0 y1, I y1 → QX y0 y1) : ∀ (l0 : Nat) (l1 : Int32) (l2 : Int32) (σ : kx_S), I σ → vX11_crew l0 l1 l2 σ Q QX := by
  intro l0 l1 l2 σ i
  unfold vX11_crew
  intro e1
  refine jfX11_reachAt (I := I) (fw_sub W (by decide)) ?_ hX _ _ _ i
  intro b2 σ1 iσ1
  refine ⟨?_, ?_⟩
  · intro e2
    intro e3
    intro a6 e4
    intro e5
    refine jfJx4a65c_size_8abf5 (I := I) (fw_sub W (by decide)) ?_ _ _ iσ1
    intro r9 σ8 iσ8
    refine jfX11_isWithin (I := I) (fw_sub W (by decide)) ?_ _ _ _ _ iσ8
    intro r12 σ11 iσ11
    refine ⟨?_, ?_⟩
    · intro e6
      intro e7
      intro a15 e8
      intro e9
      refine jfJx4a65c_get_915e3 (I := I) (fw_sub W (by decide)) ?_ _ _ _ iσ11
      intro q18 σ17 iσ17
      intro a20 e10
      intro e11
      intro a23 e12
      intro e13
      refine ⟨?_, ?_⟩
      · intro e14
        exact hQ _ _ iσ17
      · intro e15
        intro e16
        refine jfX2_come (I := I) (fw_sub W (by decide)) ?_ _ _ _ _ iσ17
        intro σ28 iσ28
        exact hQ _ _ iσ28
    · intro e17
      exact hQ _ _ iσ11
  · intro e18
    intro e19
    refine jfX11_newCrew (I := I) (fw_sub W (by decide)) ?_ _ _ _ iσ1
    intro r30 σ29 iσ29
    exact hQ _ _ iσ29
def vX11_feed (l0 : Nat) (l1 : Int32) (l2 : Int32) (l3 : Int32) (l4 : Int32) (l5 : Int32) (σ : kx_S) (Q : Int32 → kx_S → Prop) : Prop := xt σ l0 = 13 → ∀ a2, xr σ 213 l0 = some a2 → xt σ a2 = 11 → (((xi σ 177 a2) ≤ 480 → ∀ a6, xr σ 213 l0 = some a6 → xt σ a6 = 11 → vX9_append a6 l1 σ (fun σ8 => xt σ8 l0 = 13 → ∀ a11, xr σ8 213 l0 = some a11 → xt σ8 a11 = 11 → vX9_append a11 l2 σ8 (fun σ13 => xt σ13 l0 = 13 → ∀ a16, xr σ13 213 l0 = some a16 → xt σ13 a16 = 11 → vX9_append a16 l3 σ13 (fun σ18 => xt σ18 l0 = 13 → ∀ a21, xr σ18 213 l0 = some a21 → xt σ18 a21 = 11 → vX9_append a21 l4 σ18 (fun σ23 => xt σ23 l0 = 13 → ∀ a26, xr σ23 213 l0 = some a26 → xt σ23 a26 = 11 → vX9_append a26 l5 σ23 (fun σ28 => xt σ28 l0 = 13 → ∀ a31, xr σ28 213 l0 = some a31 → xt σ28 a31 = 11 → Q (xi σ28 177 a31) σ28)))))) ∧ (¬ ((xi σ 177 a2) ≤ 480) → Q (-1) σ))
set_option maxRecDepth 100000 in
set_option maxHeartbeats 4000000 in
theorem jcX11_feed {Q Q' Q'' : Int32 → kx_S → Prop} (hQ : ∀ y0 y1, Q y0 y1 → Q' y0 y1 → Q'' y0 y1) : ∀ (l0 : Nat) (l1 : Int32) (l2 : Int32) (l3 : Int32) (l4 : Int32) (l5 : Int32) (σ : kx_S), wX11_feed l0 l1 l2 l3 l4 l5 σ Q → vX11_feed l0 l1 l2 l3 l4 l5 σ Q' → wX11_feed l0 l1 l2 l3 l4 l5 σ Q'' := by
  intro l0 l1 l2 l3 l4 l5 σ h v
  unfold wX11_feed at h
  unfold vX11_feed at v
  unfold wX11_feed
  refine ⟨h.1, ?_⟩
  have v := v h.1
  have h := h.2
  obtain ⟨a2, e2, h⟩ := h
  refine ⟨a2, e2, ?_⟩
  have v := v a2 e2
  refine ⟨h.1, ?_⟩
  have v := v h.1
  have h := h.2
  refine ⟨?_, ?_⟩
  · have h := h.1
    have v := v.1
    intro e4
    have h := h e4
    have v := v e4
    obtain ⟨a6, e5, h⟩ := h
    refine ⟨a6, e5, ?_⟩
    have v := v a6 e5
    refine ⟨h.1, ?_⟩
    have v := v h.1
    have h := h.2
    refine jcX9_append ?_ _ _ _ h v
    intro σ8 h v
    refine ⟨h.1, ?_⟩
    have v := v h.1
    have h := h.2
    obtain ⟨a11, e8, h⟩ := h
    refine ⟨a11, e8, ?_⟩
    have v := v a11 e8
    refine ⟨h.1, ?_⟩
    have v := v h.1
    have h := h.2
    refine jcX9_append ?_ _ _ _ h v
    intro σ13 h v
    refine ⟨h.1, ?_⟩
    have v := v h.1
    have h := h.2
    obtain ⟨a16, e11, h⟩ := h
    refine ⟨a16, e11, ?_⟩
    have v := v a16 e11
    refine ⟨h.1, ?_⟩
    have v := v h.1
    have h := h.2
    refine jcX9_append ?_ _ _ _ h v
    intro σ18 h v
    refine ⟨h.1, ?_⟩
    have v := v h.1
    have h := h.2
    obtain ⟨a21, e14, h⟩ := h
    refine ⟨a21, e14, ?_⟩
    have v := v a21 e14
    refine ⟨h.1, ?_⟩
    have v := v h.1
    have h := h.2
    refine jcX9_append ?_ _ _ _ h v
    intro σ23 h v
    refine ⟨h.1, ?_⟩
    have v := v h.1
    have h := h.2
    obtain ⟨a26, e17, h⟩ := h
    refine ⟨a26, e17, ?_⟩
    have v := v a26 e17
    refine ⟨h.1, ?_⟩
    have v := v h.1
    have h := h.2
    refine jcX9_append ?_ _ _ _ h v
    intro σ28 h v
    refine ⟨h.1, ?_⟩
    have v := v h.1
    have h := h.2
    obtain ⟨a31, e20, h⟩ := h
    refine ⟨a31, e20, ?_⟩
    have v := v a31 e20
    refine ⟨h.1, ?_⟩
    have v := v h.1
    have h := h.2
    exact hQ _ _ h v
  · have h := h.2
    have v := v.2
    intro e22
    have h := h e22
    have v := v e22
    exact hQ _ _ h v
set_option maxRecDepth 100000 in
set_option maxHeartbeats 4000000 in
theorem jaX11_feed {Q Q' : Int32 → kx_S → Prop} (hQ : ∀ y0 y1, Q y0 y1 → Q' y0 y1) : ∀ (l0 : Nat) (l1 : Int32) (l2 : Int32) (l3 : Int32) (l4 : Int32) (l5 : Int32) (σ : kx_S), wX11_feed l0 l1 l2 l3 l4 l5 σ Q → vX11_feed l0 l1 l2 l3 l4 l5 σ Q' := by
  intro l0 l1 l2 l3 l4 l5 σ h
  unfold wX11_feed at h
  unfold vX11_feed
  intro e1
  have h := h.2
  obtain ⟨a2', e2, h⟩ := h
  intro a2 e3
  have x9 : a2' = a2 := Option.some.inj (e2.symm.trans e3)
  rw [x9] at h
  intro e4
  have h := h.2
  refine ⟨?_, ?_⟩
  · have h := h.1
    intro e5
    have h := h e5
    obtain ⟨a6', e6, h⟩ := h
    intro a6 e7
    have x9 : a6' = a6 := Option.some.inj (e6.symm.trans e7)
    rw [x9] at h
    intro e8
    have h := h.2
    refine jaX9_append ?_ _ _ _ h
    intro σ8 h
    intro e9
    have h := h.2
    obtain ⟨a11', e10, h⟩ := h
    intro a11 e11
    have x9 : a11' = a11 := Option.some.inj (e10.symm.trans e11)
    rw [x9] at h
    intro e12
    have h := h.2
    refine jaX9_append ?_ _ _ _ h
    intro σ13 h
    intro e13
    have h := h.2
    obtain ⟨a16', e14, h⟩ := h
    intro a16 e15
    have x9 : a16' = a16 := Option.some.inj (e14.symm.trans e15)
    rw [x9] at h
    intro e16
    have h := h.2
    refine jaX9_append ?_ _ _ _ h
    intro σ18 h
    intro e17
    have h := h.2
    obtain ⟨a21', e18, h⟩ := h
    intro a21 e19
    have x9 : a21' = a21 := Option.some.inj (e18.symm.trans e19)
    rw [x9] at h
    intro e20
    have h := h.2
    refine jaX9_append ?_ _ _ _ h
    intro σ23 h
    intro e21
    have h := h.2
    obtain ⟨a26', e22, h⟩ := h
    intro a26 e23
    have x9 : a26' = a26 := Option.some.inj (e22.symm.trans e23)
    rw [x9] at h
    intro e24
    have h := h.2
    refine jaX9_append ?_ _ _ _ h
    intro σ28 h
    intro e25
    have h := h.2
    obtain ⟨a31', e26, h⟩ := h
    intro a31 e27
    have x9 : a31' = a31 := Option.some.inj (e26.symm.trans e27)
    rw [x9] at h
    intro e28
    have h := h.2
    exact hQ _ _ h
  · have h := h.2
    intro e29
    have h := h e29
    exact hQ _ _ h
set_option maxRecDepth 100000 in
set_option maxHeartbeats 4000000 in
theorem jfX11_feed {I : kx_S → Prop} (W : fw_ I [177, 1001]) {Q : Int32 → kx_S → Prop} (hQ : ∀ y0 y1, I y1 → Q y0 y1) : ∀ (l0 : Nat) (l1 : Int32) (l2 : Int32) (l3 : Int32) (l4 : Int32) (l5 : Int32) (σ : kx_S), I σ → vX11_feed l0 l1 l2 l3 l4 l5 σ Q := by
  intro l0 l1 l2 l3 l4 l5 σ i
  unfold vX11_feed
  intro e1
  intro a2 e2
  intro e3
  refine ⟨?_, ?_⟩
  · intro e4
    intro a6 e5
    intro e6
    refine jfX9_append (I := I) (fw_sub W (by decide)) ?_ _ _ _ i
    intro σ8 iσ8
    intro e7
    intro a11 e8
    intro e9
    refine jfX9_append (I := I) (fw_sub W (by decide)) ?_ _ _ _ iσ8
    intro σ13 iσ13
    intro e10
    intro a16 e11
    intro e12
    refine jfX9_append (I := I) (fw_sub W (by decide)) ?_ _ _ _ iσ13
    intro σ18 iσ18
    intro e13
    intro a21 e14
    intro e15
    refine jfX9_append (I := I) (fw_sub W (by decide)) ?_ _ _ _ iσ18
    intro σ23 iσ23
    intro e16
    intro a26 e17
    intro e18
    refine jfX9_append (I := I) (fw_sub W (by decide)) ?_ _ _ _ iσ23
    intro σ28 iσ28
    intro e19
    intro a31 e20
    intro e21
    exact hQ _ _ iσ28
  · intro e22
    exact hQ _ _ i
def vX11_law_26 (Q : Int32 → kx_S → Prop) (QX : String → kx_S → Prop) (σ : kx_S) : Prop := xc σ < kx_N → QX pz_I (xbump σ)
set_option maxRecDepth 100000 in
set_option maxHeartbeats 4000000 in
theorem jcX11_law_26 {Q Q' Q'' : Int32 → kx_S → Prop} (hQ : ∀ y0 y1, Q y0 y1 → Q' y0 y1 → Q'' y0 y1) {QX QX' QX'' : String → kx_S → Prop} (hX : ∀ y0 y1, QX y0 y1 → QX' y0 y1 → QX'' y0 y1) : ∀ (σ : kx_S), wX11_law_26 Q QX σ → vX11_law_26 Q' QX' σ → wX11_law_26 Q'' QX'' σ := by
  intro σ h v
  unfold wX11_law_26 at h
  unfold vX11_law_26 at v
  unfold wX11_law_26
  refine ⟨h.1, ?_⟩
  have v := v h.1
  have h := h.2
  exact hX _ _ h v
set_option maxRecDepth 100000 in
set_option maxHeartbeats 4000000 in
theorem jaX11_law_26 {Q Q' : Int32 → kx_S → Prop} (hQ : ∀ y0 y1, Q y0 y1 → Q' y0 y1) {QX QX' : String → kx_S → Prop} (hX : ∀ y0 y1, QX y0 y1 → QX' y0 y1) : ∀ (σ : kx_S), wX11_law_26 Q QX σ → vX11_law_26 Q' QX' σ := by
  intro σ h
  unfold wX11_law_26 at h
  unfold vX11_law_26
  intro e1
  have h := h.2
  exact hX _ _ h
set_option maxRecDepth 100000 in
set_option maxHeartbeats 4000000 in
theorem jfX11_law_26 {I : kx_S → Prop} (W : fw_ I [1005]) {Q : Int32 → kx_S → Prop} (hQ : ∀ y0 y1, I y1 → Q y0 y1) {QX : String → kx_S → Prop} (hX : ∀ y0 y1, I y1 → QX y0 y1) : ∀ (σ : kx_S), I σ → vX11_law_26 Q QX σ := by
  intro σ i
  unfold vX11_law_26
  intro e1
  exact hX _ _ ((W _ i).2.2.2.2.2.1 (by decide))
def vX11_law (l0 : Nat) (l1 : Int32) (l2 : Int32) (σ : kx_S) (Q : Int32 → kx_S → Prop) (QX : String → kx_S → Prop) : Prop := xt σ l0 = 13 → ∀ a3, xr σ 213 l0 = some a3 → xt σ a3 = 11 → vX11_isWithin l1 0 (xi σ 177 a3) σ (fun r7 σ6 => ((r7 = 0 → vX11_law_26 Q QX σ6) ∧ (¬ (r7 = 0) → vX11_isWithin l2 0 1000 σ6 (fun r10 σ9 => ((¬ r10 = 0 → xt σ9 l0 = 13 → ∀ a13, xr σ9 213 l0 = some a13 → xt σ9 a13 = 11 → ∀ σ16, σ16 = xsi σ9 177 a13 0 → ∀ σ19, σ19 = xsi σ16 219 l0 (-1) → ∀ a22, xr σ19 210 l0 = some a22 → xt σ19 a22 = 1 → vJx4a65c_size_8abf5 a22 σ19 (fun r25 σ24 => ((r25 < 6 → xt σ24 l0 = 13 → ∀ a29, xr σ24 214 l0 = some a29 → xt σ24 a29 = 7 → vX5_readText a29 l1 σ24 (fun σ31 => xt σ31 l0 = 13 → ∀ a34, xr σ31 214 l0 = some a34 → xt σ31 a34 = 7 → (((xi σ31 115 a34) = 0 → ∀ a38, xr σ31 210 l0 = some a38 → xc σ31 < kx_N → ∀ p41, xt σ31 p41 = 0 → p41 ≠ xz σ31 → ∀ σ44, σ44 = xnew σ31 p41 6 → xt σ44 l0 = 13 → ∀ a47, xr σ44 214 l0 = some a47 → xt σ44 a47 = 7 → ∀ a50, xr σ44 113 a47 = some a50 → ∀ a52, xr σ44 214 l0 = some a52 → xt σ44 a52 = 7 → vJ7_copyOf_59c91 a50 (xi σ44 114 a52) σ44 (fun b56 σ55 => vX4_init p41 l2 b56 σ55 (fun σ57 => xt σ57 a38 = 1 → vJx4a65c_add_9ea2d a38 p41 σ57 (fun r59 σ58 => xt σ58 l0 = 13 → ∀ a62, xr σ58 210 l0 = some a62 → xt σ58 a62 = 1 → vJx4a65c_size_8abf5 a62 σ58 (fun r65 σ64 => Q (r65 - 1) σ64))))) ∧ (¬ ((xi σ31 115 a34) = 0) → ∀ a67, xr σ31 214 l0 = some a67 → xt σ31 a67 = 7 → ∀ σ70, σ70 = xsi σ31 219 l0 (xi σ31 116 a67) → ∀ a74, xr σ70 214 l0 = some a74 → xt σ70 a74 = 7 → Q ((-1) - (xi σ70 115 a74)) σ70)))) ∧ (¬ (r25 < 6) → Q (-9) σ24)))) ∧ (r10 = 0 → vX11_law_26 Q QX σ9))))))
set_option maxRecDepth 100000 in
set_option maxHeartbeats 4000000 in
theorem jcX11_law {Q Q' Q'' : Int32 → kx_S → Prop} (hQ : ∀ y0 y1, Q y0 y1 → Q' y0 y1 → Q'' y0 y1) {QX QX' QX'' : String → kx_S → Prop} (hX : ∀ y0 y1, QX y0 y1 → QX' y0 y1 → QX'' y0 y1) : ∀ (l0 : Nat) (l1 : Int32) (l2 : Int32) (σ : kx_S), wX11_law l0 l1 l2 σ Q QX → vX11_law l0 l1 l2 σ Q' QX' → wX11_law l0 l1 l2 σ Q'' QX'' := by
  intro l0 l1 l2 σ h v
  unfold wX11_law at h
  unfold vX11_law at v
  unfold wX11_law
  refine ⟨h.1, ?_⟩
  have v := v h.1
  have h := h.2
  obtain ⟨a3, e2, h⟩ := h
  refine ⟨a3, e2, ?_⟩
  have v := v a3 e2
  refine ⟨h.1, ?_⟩
  have v := v h.1
  have h := h.2
  refine jcX11_isWithin ?_ _ _ _ _ h v
  intro r7 σ6 h v
  refine ⟨?_, ?_⟩
  · have h := h.1
    have v := v.1
    intro e4
    have h := h e4
    have v := v e4
    exact jcX11_law_26 hQ hX _ h v
  · have h := h.2
    have v := v.2
    intro e5
    have h := h e5
    have v := v e5
    refine jcX11_isWithin ?_ _ _ _ _ h v
    intro r10 σ9 h v
    refine ⟨?_, ?_⟩
    · have h := h.1
      have v := v.1
      intro e6
      have h := h e6
      have v := v e6
      refine ⟨h.1, ?_⟩
      have v := v h.1
      have h := h.2
      obtain ⟨a13, e8, h⟩ := h
      refine ⟨a13, e8, ?_⟩
      have v := v a13 e8
      refine ⟨h.1, ?_⟩
      have v := v h.1
      have h := h.2
      intro σ16 e10
      have h := h σ16 e10
      have v := v σ16 e10
      intro σ19 e11
      have h := h σ19 e11
      have v := v σ19 e11
      obtain ⟨a22, e12, h⟩ := h
      refine ⟨a22, e12, ?_⟩
      have v := v a22 e12
      refine ⟨h.1, ?_⟩
      have v := v h.1
      have h := h.2
      refine jcJx4a65c_size_8abf5 ?_ _ _ h v
      intro r25 σ24 h v
      refine ⟨?_, ?_⟩
      · have h := h.1
        have v := v.1
        intro e14
        have h := h e14
        have v := v e14
        refine ⟨h.1, ?_⟩
        have v := v h.1
        have h := h.2
        obtain ⟨a29, e16, h⟩ := h
        refine ⟨a29, e16, ?_⟩
        have v := v a29 e16
        refine ⟨h.1, ?_⟩
        have v := v h.1
        have h := h.2
        refine jcX5_readText ?_ _ _ _ h v
        intro σ31 h v
        refine ⟨h.1, ?_⟩
        have v := v h.1
        have h := h.2
        obtain ⟨a34, e19, h⟩ := h
        refine ⟨a34, e19, ?_⟩
        have v := v a34 e19
        refine ⟨h.1, ?_⟩
        have v := v h.1
        have h := h.2
        refine ⟨?_, ?_⟩
        · have h := h.1
          have v := v.1
          intro e21
          have h := h e21
          have v := v e21
          obtain ⟨a38, e22, h⟩ := h
          refine ⟨a38, e22, ?_⟩
          have v := v a38 e22
          refine ⟨h.1, ?_⟩
          have v := v h.1
          have h := h.2
          intro p41 e24 e25
          have h := h p41 e24 e25
          have v := v p41 e24 e25
          intro σ44 e26
          have h := h σ44 e26
          have v := v σ44 e26
          refine ⟨h.1, ?_⟩
          have v := v h.1
          have h := h.2
          obtain ⟨a47, e28, h⟩ := h
          refine ⟨a47, e28, ?_⟩
          have v := v a47 e28
          refine ⟨h.1, ?_⟩
          have v := v h.1
          have h := h.2
          obtain ⟨a50, e30, h⟩ := h
          refine ⟨a50, e30, ?_⟩
          have v := v a50 e30
          obtain ⟨a52, e31, h⟩ := h
          refine ⟨a52, e31, ?_⟩
          have v := v a52 e31
          refine ⟨h.1, ?_⟩
          have v := v h.1
          have h := h.2
          refine jcJ7_copyOf_59c91 ?_ _ _ _ h v
          intro b56 σ55 h v
          refine jcX4_init ?_ _ _ _ _ h v
          intro σ57 h v
          refine ⟨h.1, ?_⟩
          have v := v h.1
          have h := h.2
          refine jcJx4a65c_add_9ea2d ?_ _ _ _ h v
          intro r59 σ58 h v
          refine ⟨h.1, ?_⟩
          have v := v h.1
          have h := h.2
          obtain ⟨a62, e35, h⟩ := h
          refine ⟨a62, e35, ?_⟩
          have v := v a62 e35
          refine ⟨h.1, ?_⟩
          have v := v h.1
          have h := h.2
          refine jcJx4a65c_size_8abf5 ?_ _ _ h v
          intro r65 σ64 h v
          exact hQ _ _ h v
        · have h := h.2
          have v := v.2
          intro e37
          have h := h e37
          have v := v e37
          obtain ⟨a67, e38, h⟩ := h
          refine ⟨a67, e38, ?_⟩
          have v := v a67 e38
          refine ⟨h.1, ?_⟩
          have v := v h.1
          have h := h.2
          intro σ70 e40
          have h := h σ70 e40
          have v := v σ70 e40
          obtain ⟨a74, e41, h⟩ := h
          refine ⟨a74, e41, ?_⟩
          have v := v a74 e41
          refine ⟨h.1, ?_⟩
          have v := v h.1
          have h := h.2
          exact hQ _ _ h v
      · have h := h.2
        have v := v.2
        intro e43
        have h := h e43
        have v := v e43
        exact hQ _ _ h v
    · have h := h.2
      have v := v.2
      intro e44
      have h := h e44
      have v := v e44
      exact jcX11_law_26 hQ hX _ h v
set_option maxRecDepth 100000 in
set_option maxHeartbeats 4000000 in
theorem jaX11_law {Q Q' : Int32 → kx_S → Prop} (hQ : ∀ y0 y1, Q y0 y1 → Q' y0 y1) {QX QX' : String → kx_S → Prop} (hX : ∀ y0 y1, QX y0 y1 → QX' y0 y1) : ∀ (l0 : Nat) (l1 : Int32) (l2 : Int32) (σ : kx_S), wX11_law l0 l1 l2 σ Q QX → vX11_law l0 l1 l2 σ Q' QX' := by
  intro l0 l1 l2 σ h
  unfold wX11_law at h
  unfold vX11_law
  intro e1
  have h := h.2
  obtain ⟨a3', e2, h⟩ := h
  intro a3 e3
  have x9 : a3' = a3 := Option.some.inj (e2.symm.trans e3)
  rw [x9] at h
  intro e4
  have h := h.2
  refine jaX11_isWithin ?_ _ _ _ _ h
  intro r7 σ6 h
  refine ⟨?_, ?_⟩
  · have h := h.1
    intro e5
    have h := h e5
    exact jaX11_law_26 hQ hX _ h
  · have h := h.2
    intro e6
    have h := h e6
    refine jaX11_isWithin ?_ _ _ _ _ h
    intro r10 σ9 h
    refine ⟨?_, ?_⟩
    · have h := h.1
      intro e7
      have h := h e7
      intro e8
      have h := h.2
      obtain ⟨a13', e9, h⟩ := h
      intro a13 e10
      have x9 : a13' = a13 := Option.some.inj (e9.symm.trans e10)
      rw [x9] at h
      intro e11
      have h := h.2
      intro σ16 e12
      have h := h σ16 e12
      intro σ19 e13
      have h := h σ19 e13
      obtain ⟨a22', e14, h⟩ := h
      intro a22 e15
      have x9 : a22' = a22 := Option.some.inj (e14.symm.trans e15)
      rw [x9] at h
      intro e16
      have h := h.2
      refine jaJx4a65c_size_8abf5 ?_ _ _ h
      intro r25 σ24 h
      refine ⟨?_, ?_⟩
      · have h := h.1
        intro e17
        have h := h e17
        intro e18
        have h := h.2
        obtain ⟨a29', e19, h⟩ := h
        intro a29 e20
        have x9 : a29' = a29 := Option.some.inj (e19.symm.trans e20)
        rw [x9] at h
        intro e21
        have h := h.2
        refine jaX5_readText ?_ _ _ _ h
        intro σ31 h
        intro e22
        have h := h.2
        obtain ⟨a34', e23, h⟩ := h
        intro a34 e24
        have x9 : a34' = a34 := Option.some.inj (e23.symm.trans e24)
        rw [x9] at h
        intro e25
        have h := h.2
        refine ⟨?_, ?_⟩
        · have h := h.1
          intro e26
          have h := h e26
          obtain ⟨a38', e27, h⟩ := h
          intro a38 e28
          have x9 : a38' = a38 := Option.some.inj (e27.symm.trans e28)
          rw [x9] at h
          intro e29
          have h := h.2
          intro p41 e30 e31
          have h := h p41 e30 e31
          intro σ44 e32
          have h := h σ44 e32
          intro e33
          have h := h.2
          obtain ⟨a47', e34, h⟩ := h
          intro a47 e35
          have x9 : a47' = a47 := Option.some.inj (e34.symm.trans e35)
          rw [x9] at h
          intro e36
          have h := h.2
          obtain ⟨a50', e37, h⟩ := h
          intro a50 e38
          have x9 : a50' = a50 := Option.some.inj (e37.symm.trans e38)
          rw [x9] at h
          obtain ⟨a52', e39, h⟩ := h
          intro a52 e40
          have x9 : a52' = a52 := Option.some.inj (e39.symm.trans e40)
          rw [x9] at h
          intro e41
          have h := h.2
          refine jaJ7_copyOf_59c91 ?_ _ _ _ h
          intro b56 σ55 h
          refine jaX4_init ?_ _ _ _ _ h
          intro σ57 h
          intro e42
          have h := h.2
          refine jaJx4a65c_add_9ea2d ?_ _ _ _ h
          intro r59 σ58 h
          intro e43
          have h := h.2
          obtain ⟨a62', e44, h⟩ := h
          intro a62 e45
          have x9 : a62' = a62 := Option.some.inj (e44.symm.trans e45)
          rw [x9] at h
          intro e46
          have h := h.2
          refine jaJx4a65c_size_8abf5 ?_ _ _ h
          intro r65 σ64 h
          exact hQ _ _ h
        · have h := h.2
          intro e47
          have h := h e47
          obtain ⟨a67', e48, h⟩ := h
          intro a67 e49
          have x9 : a67' = a67 := Option.some.inj (e48.symm.trans e49)
          rw [x9] at h
          intro e50
          have h := h.2
          intro σ70 e51
          have h := h σ70 e51
          obtain ⟨a74', e52, h⟩ := h
          intro a74 e53
          have x9 : a74' = a74 := Option.some.inj (e52.symm.trans e53)
          rw [x9] at h
          intro e54
          have h := h.2
          exact hQ _ _ h
      · have h := h.2
        intro e55
        have h := h e55
        exact hQ _ _ h
    · have h := h.2
      intro e56
      have h := h e56
      exact jaX11_law_26 hQ hX _ h
set_option maxRecDepth 100000 in
set_option maxHeartbeats 4000000 in
theorem jfX11_law {I : kx_S → Prop} (W : fw_ I [16, 17, 18, 96, 97, 114, 115, 116, 177, 193, 194, 195, 196, 219, 1001, 1003, 1004, 1005, 1106, 1220, 1222]) {Q : Int32 → kx_S → Prop} (hQ : ∀ y0 y1, I y1 → Q y0 y1) {QX : String → kx_S → Prop} (hX : ∀ y0 y1, I y1 → QX y0 y1) : ∀ (l0 : Nat) (l1 : Int32) (l2 : Int32) (σ : kx_S), I σ → vX11_law l0 l1 l2 σ Q QX := by
  intro l0 l1 l2 σ i
  unfold vX11_law
  intro e1
  intro a3 e2
  intro e3
  refine jfX11_isWithin (I := I) (fw_sub W (by decide)) ?_ _ _ _ _ i
  intro r7 σ6 iσ6
  refine ⟨?_, ?_⟩
  · intro e4
    exact jfX11_law_26 (I := I) (fw_sub W (by decide)) hQ hX _ iσ6
  · intro e5
    refine jfX11_isWithin (I := I) (fw_sub W (by decide)) ?_ _ _ _ _ iσ6
    intro r10 σ9 iσ9
    refine ⟨?_, ?_⟩
    · intro e6
      intro e7
      intro a13 e8
      intro e9
      intro σ16 e10
      have iσ16 : I σ16 := by rw [e10]; exact ((W _ iσ9).1 177 (by decide)).1 _ _
      intro σ19 e11
      have iσ19 : I σ19 := by rw [e11]; exact ((W _ iσ16).1 219 (by decide)).1 _ _
      intro a22 e12
      intro e13
      refine jfJx4a65c_size_8abf5 (I := I) (fw_sub W (by decide)) ?_ _ _ iσ19
      intro r25 σ24 iσ24
      refine ⟨?_, ?_⟩
      · intro e14
        intro e15
        intro a29 e16
        intro e17
        refine jfX5_readText (I := I) (fw_sub W (by decide)) ?_ _ _ _ iσ24
        intro σ31 iσ31
        intro e18
        intro a34 e19
        intro e20
        refine ⟨?_, ?_⟩
        · intro e21
          intro a38 e22
          intro e23
          intro p41 e24 e25
          intro σ44 e26
          have iσ44 : I σ44 := by rw [e26]; exact (W _ iσ31).2.2.2.2.2.2.1 6 (by decide) _ e24
          intro e27
          intro a47 e28
          intro e29
          intro a50 e30
          intro a52 e31
          intro e32
          refine jfJ7_copyOf_59c91 (I := I) (fw_sub W (by decide)) ?_ _ _ _ iσ44
          intro b56 σ55 iσ55
          refine jfX4_init (I := I) (fw_sub W (by decide)) ?_ _ _ _ _ iσ55
          intro σ57 iσ57
          intro e33
          refine jfJx4a65c_add_9ea2d (I := I) (fw_sub W (by decide)) ?_ _ _ _ iσ57
          intro r59 σ58 iσ58
          intro e34
          intro a62 e35
          intro e36
          refine jfJx4a65c_size_8abf5 (I := I) (fw_sub W (by decide)) ?_ _ _ iσ58
          intro r65 σ64 iσ64
          exact hQ _ _ iσ64
        · intro e37
          intro a67 e38
          intro e39
          intro σ70 e40
          have iσ70 : I σ70 := by rw [e40]; exact ((W _ iσ31).1 219 (by decide)).1 _ _
          intro a74 e41
          intro e42
          exact hQ _ _ iσ70
      · intro e43
        exact hQ _ _ iσ24
    · intro e44
      exact jfX11_law_26 (I := I) (fw_sub W (by decide)) hQ hX _ iσ9
def vX11_fault (l0 : Nat) (σ : kx_S) (Q : Int32 → kx_S → Prop) : Prop := xt σ l0 = 13 → Q (xi σ 219 l0) σ
set_option maxRecDepth 100000 in
set_option maxHeartbeats 4000000 in
theorem jcX11_fault {Q Q' Q'' : Int32 → kx_S → Prop} (hQ : ∀ y0 y1, Q y0 y1 → Q' y0 y1 → Q'' y0 y1) : ∀ (l0 : Nat) (σ : kx_S), wX11_fault l0 σ Q → vX11_fault l0 σ Q' → wX11_fault l0 σ Q'' := by
  intro l0 σ h v
  unfold wX11_fault at h
  unfold vX11_fault at v
  unfold wX11_fault
  refine ⟨h.1, ?_⟩
  have v := v h.1
  have h := h.2
  exact hQ _ _ h v
set_option maxRecDepth 100000 in
set_option maxHeartbeats 4000000 in
theorem jaX11_fault {Q Q' : Int32 → kx_S → Prop} (hQ : ∀ y0 y1, Q y0 y1 → Q' y0 y1) : ∀ (l0 : Nat) (σ : kx_S), wX11_fault l0 σ Q → vX11_fault l0 σ Q' := by
  intro l0 σ h
  unfold wX11_fault at h
  unfold vX11_fault
  intro e1
  have h := h.2
  exact hQ _ _ h
set_option maxRecDepth 100000 in
set_option maxHeartbeats 4000000 in
theorem jfX11_fault {I : kx_S → Prop} (W : fw_ I []) {Q : Int32 → kx_S → Prop} (hQ : ∀ y0 y1, I y1 → Q y0 y1) : ∀ (l0 : Nat) (σ : kx_S), I σ → vX11_fault l0 σ Q := by
  intro l0 σ i
  unfold vX11_fault
  intro e1
  exact hQ _ _ i
def vX11_lawInForce_74 (k4 : Nat → (Option Nat) → Int32 → kx_S → Prop) (Q : Option Nat → kx_S → Prop) (l0 : Nat) (l1 : Option Nat) (l2 : Int32) (σ : kx_S) : Prop := ∀ v1 : Int32, v1 = l2 + 1 → k4 l0 l1 v1 σ
set_option maxRecDepth 100000 in
set_option maxHeartbeats 4000000 in
theorem jcX11_lawInForce_74 {k4 k4' k4'' : Nat → (Option Nat) → Int32 → kx_S → Prop} (hk4 : ∀ y0 y1 y2 y3, k4 y0 y1 y2 y3 → k4' y0 y1 y2 y3 → k4'' y0 y1 y2 y3) {Q Q' Q'' : Option Nat → kx_S → Prop} (hQ : ∀ y0 y1, Q y0 y1 → Q' y0 y1 → Q'' y0 y1) : ∀ (l0 : Nat) (l1 : Option Nat) (l2 : Int32) (σ : kx_S), wX11_lawInForce_74 k4 Q l0 l1 l2 σ → vX11_lawInForce_74 k4' Q' l0 l1 l2 σ → wX11_lawInForce_74 k4'' Q'' l0 l1 l2 σ := by
  intro l0 l1 l2 σ h v
  unfold wX11_lawInForce_74 at h
  unfold vX11_lawInForce_74 at v
  unfold wX11_lawInForce_74
  intro v1 e1
  have h := h v1 e1
  have v := v v1 e1
  exact hk4 _ _ _ _ h v
set_option maxRecDepth 100000 in
set_option maxHeartbeats 4000000 in
theorem jaX11_lawInForce_74 {k4 k4' : Nat → (Option Nat) → Int32 → kx_S → Prop} (hk4 : ∀ y0 y1 y2 y3, k4 y0 y1 y2 y3 → k4' y0 y1 y2 y3) {Q Q' : Option Nat → kx_S → Prop} (hQ : ∀ y0 y1, Q y0 y1 → Q' y0 y1) : ∀ (l0 : Nat) (l1 : Option Nat) (l2 : Int32) (σ : kx_S), wX11_lawInForce_74 k4 Q l0 l1 l2 σ → vX11_lawInForce_74 k4' Q' l0 l1 l2 σ := by
  intro l0 l1 l2 σ h
  unfold wX11_lawInForce_74 at h
  unfold vX11_lawInForce_74
  intro v1 e1
  have h := h v1 e1
  exact hk4 _ _ _ _ h
set_option maxRecDepth 100000 in
set_option maxHeartbeats 4000000 in
theorem jfX11_lawInForce_74 {I : kx_S → Prop} (W : fw_ I []) {k4 : Nat → (Option Nat) → Int32 → kx_S → Prop} (hk4 : ∀ y0 y1 y2 y3, I y3 → k4 y0 y1 y2 y3) {Q : Option Nat → kx_S → Prop} (hQ : ∀ y0 y1, I y1 → Q y0 y1) : ∀ (l0 : Nat) (l1 : Option Nat) (l2 : Int32) (σ : kx_S), I σ → vX11_lawInForce_74 k4 Q l0 l1 l2 σ := by
  intro l0 l1 l2 σ i
  unfold vX11_lawInForce_74
  intro v1 e1
  exact hk4 _ _ _ _ i
def vX11_lawInForce_72 (k74 : Nat → (Option Nat) → Int32 → kx_S → Prop) (Q : Option Nat → kx_S → Prop) (l0 : Nat) (l2 : Int32) (l3 : Nat) (σ : kx_S) : Prop := k74 l0 (some l3) l2 σ
set_option maxRecDepth 100000 in
set_option maxHeartbeats 4000000 in
theorem jcX11_lawInForce_72 {k74 k74' k74'' : Nat → (Option Nat) → Int32 → kx_S → Prop} (hk74 : ∀ y0 y1 y2 y3, k74 y0 y1 y2 y3 → k74' y0 y1 y2 y3 → k74'' y0 y1 y2 y3) {Q Q' Q'' : Option Nat → kx_S → Prop} (hQ : ∀ y0 y1, Q y0 y1 → Q' y0 y1 → Q'' y0 y1) : ∀ (l0 : Nat) (l2 : Int32) (l3 : Nat) (σ : kx_S), wX11_lawInForce_72 k74 Q l0 l2 l3 σ → vX11_lawInForce_72 k74' Q' l0 l2 l3 σ → wX11_lawInForce_72 k74'' Q'' l0 l2 l3 σ := by
  intro l0 l2 l3 σ h v
  unfold wX11_lawInForce_72 at h
  unfold vX11_lawInForce_72 at v
  unfold wX11_lawInForce_72
  exact hk74 _ _ _ _ h v
set_option maxRecDepth 100000 in
set_option maxHeartbeats 4000000 in
theorem jaX11_lawInForce_72 {k74 k74' : Nat → (Option Nat) → Int32 → kx_S → Prop} (hk74 : ∀ y0 y1 y2 y3, k74 y0 y1 y2 y3 → k74' y0 y1 y2 y3) {Q Q' : Option Nat → kx_S → Prop} (hQ : ∀ y0 y1, Q y0 y1 → Q' y0 y1) : ∀ (l0 : Nat) (l2 : Int32) (l3 : Nat) (σ : kx_S), wX11_lawInForce_72 k74 Q l0 l2 l3 σ → vX11_lawInForce_72 k74' Q' l0 l2 l3 σ := by
  intro l0 l2 l3 σ h
  unfold wX11_lawInForce_72 at h
  unfold vX11_lawInForce_72
  exact hk74 _ _ _ _ h
set_option maxRecDepth 100000 in
set_option maxHeartbeats 4000000 in
theorem jfX11_lawInForce_72 {I : kx_S → Prop} (W : fw_ I []) {k74 : Nat → (Option Nat) → Int32 → kx_S → Prop} (hk74 : ∀ y0 y1 y2 y3, I y3 → k74 y0 y1 y2 y3) {Q : Option Nat → kx_S → Prop} (hQ : ∀ y0 y1, I y1 → Q y0 y1) : ∀ (l0 : Nat) (l2 : Int32) (l3 : Nat) (σ : kx_S), I σ → vX11_lawInForce_72 k74 Q l0 l2 l3 σ := by
  intro l0 l2 l3 σ i
  unfold vX11_lawInForce_72
  exact hk74 _ _ _ _ i
end
section
def vX11_lawInForce_50 (k4 : Nat → (Option Nat) → Int32 → kx_S → Prop) (Q : Option Nat → kx_S → Prop) (l0 : Nat) (l1 : Option Nat) (l2 : Int32) (l3 : Nat) (s0 : Int32) (σ : kx_S) : Prop := ((s0 = 0 → vX11_lawInForce_74 k4 Q l0 l1 l2 σ) ∧ (¬ (s0 = 0) → ((l1 = none → vX11_lawInForce_72 (vX11_lawInForce_74 k4 Q) Q l0 l2 l3 σ) ∧ (∀ a4, l1 = some a4 → xt σ l3 = 6 → xt σ a4 = 6 → (((xi σ 96 l3) < (xi σ 96 a4) → vX11_lawInForce_74 k4 Q l0 (some a4) l2 σ) ∧ (¬ ((xi σ 96 l3) < (xi σ 96 a4)) → vX11_lawInForce_72 (vX11_lawInForce_74 k4 Q) Q l0 l2 l3 σ))))))
set_option maxRecDepth 100000 in
set_option maxHeartbeats 4000000 in
theorem jcX11_lawInForce_50 {k4 k4' k4'' : Nat → (Option Nat) → Int32 → kx_S → Prop} (hk4 : ∀ y0 y1 y2 y3, k4 y0 y1 y2 y3 → k4' y0 y1 y2 y3 → k4'' y0 y1 y2 y3) {Q Q' Q'' : Option Nat → kx_S → Prop} (hQ : ∀ y0 y1, Q y0 y1 → Q' y0 y1 → Q'' y0 y1) : ∀ (l0 : Nat) (l1 : Option Nat) (l2 : Int32) (l3 : Nat) (s0 : Int32) (σ : kx_S), wX11_lawInForce_50 k4 Q l0 l1 l2 l3 s0 σ → vX11_lawInForce_50 k4' Q' l0 l1 l2 l3 s0 σ → wX11_lawInForce_50 k4'' Q'' l0 l1 l2 l3 s0 σ := by
  intro l0 l1 l2 l3 s0 σ h v
  unfold wX11_lawInForce_50 at h
  unfold vX11_lawInForce_50 at v
  unfold wX11_lawInForce_50
  refine ⟨?_, ?_⟩
  · have h := h.1
    have v := v.1
    intro e1
    have h := h e1
    have v := v e1
    exact jcX11_lawInForce_74 hk4 hQ _ _ _ _ h v
  · have h := h.2
    have v := v.2
    intro e2
    have h := h e2
    have v := v e2
    refine ⟨?_, ?_⟩
    · have h := h.1
      have v := v.1
      intro e3
      have h := h e3
      have v := v e3
      exact jcX11_lawInForce_72 (k74 := wX11_lawInForce_74 k4 Q) (k74' := vX11_lawInForce_74 k4' Q') (k74'' := wX11_lawInForce_74 k4'' Q'') (fun _ _ _ _ h v => jcX11_lawInForce_74 hk4 hQ _ _ _ _ h v) hQ _ _ _ _ h v
    · have h := h.2
      have v := v.2
      intro a4 e4
      have h := h a4 e4
      have v := v a4 e4
      refine ⟨h.1, ?_⟩
      have v := v h.1
      have h := h.2
      refine ⟨h.1, ?_⟩
      have v := v h.1
      have h := h.2
      refine ⟨?_, ?_⟩
      · have h := h.1
        have v := v.1
        intro e7
        have h := h e7
        have v := v e7
        exact jcX11_lawInForce_74 hk4 hQ _ _ _ _ h v
      · have h := h.2
        have v := v.2
        intro e8
        have h := h e8
        have v := v e8
        exact jcX11_lawInForce_72 (k74 := wX11_lawInForce_74 k4 Q) (k74' := vX11_lawInForce_74 k4' Q') (k74'' := wX11_lawInForce_74 k4'' Q'') (fun _ _ _ _ h v => jcX11_lawInForce_74 hk4 hQ _ _ _ _ h v) hQ _ _ _ _ h v
set_option maxRecDepth 100000 in
set_option maxHeartbeats 4000000 in
theorem jaX11_lawInForce_50 {k4 k4' : Nat → (Option Nat) → Int32 → kx_S → Prop} (hk4 : ∀ y0 y1 y2 y3, k4 y0 y1 y2 y3 → k4' y0 y1 y2 y3) {Q Q' : Option Nat → kx_S → Prop} (hQ : ∀ y0 y1, Q y0 y1 → Q' y0 y1) : ∀ (l0 : Nat) (l1 : Option Nat) (l2 : Int32) (l3 : Nat) (s0 : Int32) (σ : kx_S), wX11_lawInForce_50 k4 Q l0 l1 l2 l3 s0 σ → vX11_lawInForce_50 k4' Q' l0 l1 l2 l3 s0 σ := by
  intro l0 l1 l2 l3 s0 σ h
  unfold wX11_lawInForce_50 at h
  unfold vX11_lawInForce_50
  refine ⟨?_, ?_⟩
  · have h := h.1
    intro e1
    have h := h e1
    exact jaX11_lawInForce_74 hk4 hQ _ _ _ _ h
  · have h := h.2
    intro e2
    have h := h e2
    refine ⟨?_, ?_⟩
    · have h := h.1
      intro e3
      have h := h e3
      exact jaX11_lawInForce_72 (k74 := wX11_lawInForce_74 k4 Q) (k74' := vX11_lawInForce_74 k4' Q') (fun _ _ _ _ h => jaX11_lawInForce_74 hk4 hQ _ _ _ _ h) hQ _ _ _ _ h
    · have h := h.2
      intro a4 e4
      have h := h a4 e4
      intro e5
      have h := h.2
      intro e6
      have h := h.2
      refine ⟨?_, ?_⟩
      · have h := h.1
        intro e7
        have h := h e7
        exact jaX11_lawInForce_74 hk4 hQ _ _ _ _ h
      · have h := h.2
        intro e8
        have h := h e8
        exact jaX11_lawInForce_72 (k74 := wX11_lawInForce_74 k4 Q) (k74' := vX11_lawInForce_74 k4' Q') (fun _ _ _ _ h => jaX11_lawInForce_74 hk4 hQ _ _ _ _ h) hQ _ _ _ _ h
set_option maxRecDepth 100000 in
set_option maxHeartbeats 4000000 in
theorem jfX11_lawInForce_50 {I : kx_S → Prop} (W : fw_ I []) {k4 : Nat → (Option Nat) → Int32 → kx_S → Prop} (hk4 : ∀ y0 y1 y2 y3, I y3 → k4 y0 y1 y2 y3) {Q : Option Nat → kx_S → Prop} (hQ : ∀ y0 y1, I y1 → Q y0 y1) : ∀ (l0 : Nat) (l1 : Option Nat) (l2 : Int32) (l3 : Nat) (s0 : Int32) (σ : kx_S), I σ → vX11_lawInForce_50 k4 Q l0 l1 l2 l3 s0 σ := by
  intro l0 l1 l2 l3 s0 σ i
  unfold vX11_lawInForce_50
  refine ⟨?_, ?_⟩
  · intro e1
    exact jfX11_lawInForce_74 (I := I) (fw_sub W (by decide)) hk4 hQ _ _ _ _ i
  · intro e2
    refine ⟨?_, ?_⟩
    · intro e3
      exact jfX11_lawInForce_72 (I := I) (fw_sub W (by decide)) (k74 := vX11_lawInForce_74 k4 Q) (fun _ _ _ _ i => jfX11_lawInForce_74 (I := I) (fw_sub W (by decide)) hk4 hQ _ _ _ _ i) hQ _ _ _ _ i
    · intro a4 e4
      intro e5
      intro e6
      refine ⟨?_, ?_⟩
      · intro e7
        exact jfX11_lawInForce_74 (I := I) (fw_sub W (by decide)) hk4 hQ _ _ _ _ i
      · intro e8
        exact jfX11_lawInForce_72 (I := I) (fw_sub W (by decide)) (k74 := vX11_lawInForce_74 k4 Q) (fun _ _ _ _ i => jfX11_lawInForce_74 (I := I) (fw_sub W (by decide)) hk4 hQ _ _ _ _ i) hQ _ _ _ _ i
def vX11_lawInForce_4 (Q : Option Nat → kx_S → Prop) : Nat → Nat → (Option Nat) → Int32 → kx_S → Prop
  | 0, _, _, _, _ => True
  | n + 1, l0, l1, l2, σ => xt σ l0 = 13 → ∀ a9, xr σ 210 l0 = some a9 → xt σ a9 = 1 → vJx4a65c_size_8abf5 a9 σ (fun r12 σ11 => ((r12 ≤ l2 → Q l1 σ11) ∧ (¬ (r12 ≤ l2) → xt σ11 l0 = 13 → ∀ a16, xr σ11 210 l0 = some a16 → xt σ11 a16 = 1 → vJx4a65c_get_915e3 a16 l2 σ11 (fun q19 σ18 => ∀ a21, q19 = some a21 → xt σ18 a21 = 6 → xt σ18 l0 = 13 → ((((xi σ18 217 l0) / 24) < (xi σ18 96 a21) → vX11_lawInForce_50 (vX11_lawInForce_4 Q n) Q l0 l1 l2 a21 0 σ18) ∧ (¬ (((xi σ18 217 l0) / 24) < (xi σ18 96 a21)) → vX11_lawInForce_50 (vX11_lawInForce_4 Q n) Q l0 l1 l2 a21 1 σ18))))))
set_option maxRecDepth 100000 in
set_option maxHeartbeats 4000000 in
theorem jcX11_lawInForce_4 {Q Q' Q'' : Option Nat → kx_S → Prop} (hQ : ∀ y0 y1, Q y0 y1 → Q' y0 y1 → Q'' y0 y1) : ∀ (n : Nat) (l0 : Nat) (l1 : (Option Nat)) (l2 : Int32) (σ : kx_S), wX11_lawInForce_4 Q n l0 l1 l2 σ → vX11_lawInForce_4 Q' n l0 l1 l2 σ → wX11_lawInForce_4 Q'' n l0 l1 l2 σ := by
  intro n
  induction n with
  | zero => intro l0 l1 l2 σ h; exact h.elim
  | succ n ih =>
    intro l0 l1 l2 σ h v
    unfold wX11_lawInForce_4 at h
    unfold vX11_lawInForce_4 at v
    unfold wX11_lawInForce_4
    refine ⟨h.1, ?_⟩
    have v := v h.1
    have h := h.2
    obtain ⟨a9, e2, h⟩ := h
    refine ⟨a9, e2, ?_⟩
    have v := v a9 e2
    refine ⟨h.1, ?_⟩
    have v := v h.1
    have h := h.2
    refine jcJx4a65c_size_8abf5 ?_ _ _ h v
    intro r12 σ11 h v
    refine ⟨?_, ?_⟩
    · have h := h.1
      have v := v.1
      intro e4
      have h := h e4
      have v := v e4
      exact hQ _ _ h v
    · have h := h.2
      have v := v.2
      intro e5
      have h := h e5
      have v := v e5
      refine ⟨h.1, ?_⟩
      have v := v h.1
      have h := h.2
      obtain ⟨a16, e7, h⟩ := h
      refine ⟨a16, e7, ?_⟩
      have v := v a16 e7
      refine ⟨h.1, ?_⟩
      have v := v h.1
      have h := h.2
      refine jcJx4a65c_get_915e3 ?_ _ _ _ h v
      intro q19 σ18 h v
      obtain ⟨a21, e9, h⟩ := h
      refine ⟨a21, e9, ?_⟩
      have v := v a21 e9
      refine ⟨h.1, ?_⟩
      have v := v h.1
      have h := h.2
      refine ⟨h.1, ?_⟩
      have v := v h.1
      have h := h.2
      refine ⟨?_, ?_⟩
      · have h := h.1
        have v := v.1
        intro e12
        have h := h e12
        have v := v e12
        exact jcX11_lawInForce_50 (k4 := wX11_lawInForce_4 Q n) (k4' := vX11_lawInForce_4 Q' n) (k4'' := wX11_lawInForce_4 Q'' n) (fun _ _ _ _ h v => ih _ _ _ _ h v) hQ _ _ _ _ _ _ h v
      · have h := h.2
        have v := v.2
        intro e13
        have h := h e13
        have v := v e13
        exact jcX11_lawInForce_50 (k4 := wX11_lawInForce_4 Q n) (k4' := vX11_lawInForce_4 Q' n) (k4'' := wX11_lawInForce_4 Q'' n) (fun _ _ _ _ h v => ih _ _ _ _ h v) hQ _ _ _ _ _ _ h v
set_option maxRecDepth 100000 in
set_option maxHeartbeats 4000000 in
theorem jaX11_lawInForce_4 {Q Q' : Option Nat → kx_S → Prop} (hQ : ∀ y0 y1, Q y0 y1 → Q' y0 y1) : ∀ (n m : Nat) (l0 : Nat) (l1 : (Option Nat)) (l2 : Int32) (σ : kx_S), wX11_lawInForce_4 Q n l0 l1 l2 σ → vX11_lawInForce_4 Q' m l0 l1 l2 σ := by
  intro n
  induction n with
  | zero => intro m l0 l1 l2 σ h; exact h.elim
  | succ n ih =>
    intro m l0 l1 l2 σ h
    cases m with
    | zero => exact trivial
    | succ m =>
      unfold wX11_lawInForce_4 at h
      unfold vX11_lawInForce_4
      intro e1
      have h := h.2
      obtain ⟨a9', e2, h⟩ := h
      intro a9 e3
      have x9 : a9' = a9 := Option.some.inj (e2.symm.trans e3)
      rw [x9] at h
      intro e4
      have h := h.2
      refine jaJx4a65c_size_8abf5 ?_ _ _ h
      intro r12 σ11 h
      refine ⟨?_, ?_⟩
      · have h := h.1
        intro e5
        have h := h e5
        exact hQ _ _ h
      · have h := h.2
        intro e6
        have h := h e6
        intro e7
        have h := h.2
        obtain ⟨a16', e8, h⟩ := h
        intro a16 e9
        have x9 : a16' = a16 := Option.some.inj (e8.symm.trans e9)
        rw [x9] at h
        intro e10
        have h := h.2
        refine jaJx4a65c_get_915e3 ?_ _ _ _ h
        intro q19 σ18 h
        obtain ⟨a21', e11, h⟩ := h
        intro a21 e12
        have x9 : a21' = a21 := Option.some.inj (e11.symm.trans e12)
        rw [x9] at h
        intro e13
        have h := h.2
        intro e14
        have h := h.2
        refine ⟨?_, ?_⟩
        · have h := h.1
          intro e15
          have h := h e15
          exact jaX11_lawInForce_50 (k4 := wX11_lawInForce_4 Q n) (k4' := vX11_lawInForce_4 Q' m) (fun _ _ _ _ h => ih m _ _ _ _ h) hQ _ _ _ _ _ _ h
        · have h := h.2
          intro e16
          have h := h e16
          exact jaX11_lawInForce_50 (k4 := wX11_lawInForce_4 Q n) (k4' := vX11_lawInForce_4 Q' m) (fun _ _ _ _ h => ih m _ _ _ _ h) hQ _ _ _ _ _ _ h
set_option maxRecDepth 100000 in
set_option maxHeartbeats 4000000 in
theorem jfX11_lawInForce_4 {I : kx_S → Prop} (W : fw_ I []) {Q : Option Nat → kx_S → Prop} (hQ : ∀ y0 y1, I y1 → Q y0 y1) : ∀ (n : Nat) (l0 : Nat) (l1 : (Option Nat)) (l2 : Int32) (σ : kx_S), I σ → vX11_lawInForce_4 Q n l0 l1 l2 σ := by
  intro n
  induction n with
  | zero => intro l0 l1 l2 σ i; exact trivial
  | succ n ih =>
    intro l0 l1 l2 σ i
    unfold vX11_lawInForce_4
    intro e1
    intro a9 e2
    intro e3
    refine jfJx4a65c_size_8abf5 (I := I) (fw_sub W (by decide)) ?_ _ _ i
    intro r12 σ11 iσ11
    refine ⟨?_, ?_⟩
    · intro e4
      exact hQ _ _ iσ11
    · intro e5
      intro e6
      intro a16 e7
      intro e8
      refine jfJx4a65c_get_915e3 (I := I) (fw_sub W (by decide)) ?_ _ _ _ iσ11
      intro q19 σ18 iσ18
      intro a21 e9
      intro e10
      intro e11
      refine ⟨?_, ?_⟩
      · intro e12
        exact jfX11_lawInForce_50 (I := I) (fw_sub W (by decide)) (k4 := vX11_lawInForce_4 Q n) (fun _ _ _ _ i => ih _ _ _ _ i) hQ _ _ _ _ _ _ iσ18
      · intro e13
        exact jfX11_lawInForce_50 (I := I) (fw_sub W (by decide)) (k4 := vX11_lawInForce_4 Q n) (fun _ _ _ _ i => ih _ _ _ _ i) hQ _ _ _ _ _ _ iσ18
def vX11_lawInForce (l0 : Nat) (σ : kx_S) (Q : Option Nat → kx_S → Prop) : Prop := ∀ j, vX11_lawInForce_4 Q j l0 none 0 σ
set_option maxRecDepth 100000 in
set_option maxHeartbeats 4000000 in
theorem jcX11_lawInForce {Q Q' Q'' : Option Nat → kx_S → Prop} (hQ : ∀ y0 y1, Q y0 y1 → Q' y0 y1 → Q'' y0 y1) : ∀ (l0 : Nat) (σ : kx_S), wX11_lawInForce l0 σ Q → vX11_lawInForce l0 σ Q' → wX11_lawInForce l0 σ Q'' := by
  intro l0 σ h v
  unfold wX11_lawInForce at h
  unfold vX11_lawInForce at v
  unfold wX11_lawInForce
  obtain ⟨j, h⟩ := h
  refine ⟨j, ?_⟩
  have v := v j
  exact jcX11_lawInForce_4 hQ _ _ _ _ _ h v
set_option maxRecDepth 100000 in
set_option maxHeartbeats 4000000 in
theorem jaX11_lawInForce {Q Q' : Option Nat → kx_S → Prop} (hQ : ∀ y0 y1, Q y0 y1 → Q' y0 y1) : ∀ (l0 : Nat) (σ : kx_S), wX11_lawInForce l0 σ Q → vX11_lawInForce l0 σ Q' := by
  intro l0 σ h
  unfold wX11_lawInForce at h
  unfold vX11_lawInForce
  obtain ⟨j, h⟩ := h
  intro j9
  exact jaX11_lawInForce_4 hQ _ j9 _ _ _ _ h
set_option maxRecDepth 100000 in
set_option maxHeartbeats 4000000 in
theorem jfX11_lawInForce {I : kx_S → Prop} (W : fw_ I []) {Q : Option Nat → kx_S → Prop} (hQ : ∀ y0 y1, I y1 → Q y0 y1) : ∀ (l0 : Nat) (σ : kx_S), I σ → vX11_lawInForce l0 σ Q := by
  intro l0 σ i
  unfold vX11_lawInForce
  intro j
  exact jfX11_lawInForce_4 (I := I) (fw_sub W (by decide)) hQ _ _ _ _ _ i
def vX11_cut (l0 : Nat) (l1 : Int32) (l2 : Int32) (l3 : Int32) (σ : kx_S) (Q : Int32 → kx_S → Prop) : Prop := xt σ l0 = 13 → ∀ a2, xr σ 209 l0 = some a2 → xt σ a2 = 1 → vJx4a65c_size_8abf5 a2 σ (fun r5 σ4 => ((400 ≤ r5 → Q (-1) σ4) ∧ (¬ (400 ≤ r5) → vX11_isWithin l1 0 15 σ4 (fun r9 σ8 => ((¬ r9 = 0 → vX11_isWithin l2 1 9 σ8 (fun r12 σ11 => ((r12 = 0 → Q (-1) σ11) ∧ (¬ (r12 = 0) → vX11_isWithin l3 0 1000000 σ11 (fun r15 σ14 => ((¬ r15 = 0 → xc σ14 < kx_N → ∀ p18, xt σ14 p18 = 0 → p18 ≠ xz σ14 → ∀ σ21, σ21 = xnew σ14 p18 8 → xt σ21 l0 = 13 → ∀ a24, xr σ21 209 l0 = some a24 → xt σ21 a24 = 1 → vJx4a65c_size_8abf5 a24 σ21 (fun r27 σ26 => vX6_init p18 r27 l1 l2 l3 σ26 (fun σ29 => xt σ29 l0 = 13 → ∀ a31, xr σ29 209 l0 = some a31 → xt σ29 a31 = 1 → vJx4a65c_add_9ea2d a31 p18 σ29 (fun r34 σ33 => xt σ33 p18 = 8 → Q (xi σ33 128 p18) σ33)))) ∧ (r15 = 0 → Q (-1) σ14))))))) ∧ (r9 = 0 → Q (-1) σ8))))))
set_option maxRecDepth 100000 in
set_option maxHeartbeats 4000000 in
theorem jcX11_cut {Q Q' Q'' : Int32 → kx_S → Prop} (hQ : ∀ y0 y1, Q y0 y1 → Q' y0 y1 → Q'' y0 y1) : ∀ (l0 : Nat) (l1 : Int32) (l2 : Int32) (l3 : Int32) (σ : kx_S), wX11_cut l0 l1 l2 l3 σ Q → vX11_cut l0 l1 l2 l3 σ Q' → wX11_cut l0 l1 l2 l3 σ Q'' := by
  intro l0 l1 l2 l3 σ h v
  unfold wX11_cut at h
  unfold vX11_cut at v
  unfold wX11_cut
  refine ⟨h.1, ?_⟩
  have v := v h.1
  have h := h.2
  obtain ⟨a2, e2, h⟩ := h
  refine ⟨a2, e2, ?_⟩
  have v := v a2 e2
  refine ⟨h.1, ?_⟩
  have v := v h.1
  have h := h.2
  refine jcJx4a65c_size_8abf5 ?_ _ _ h v
  intro r5 σ4 h v
  refine ⟨?_, ?_⟩
  · have h := h.1
    have v := v.1
    intro e4
    have h := h e4
    have v := v e4
    exact hQ _ _ h v
  · have h := h.2
    have v := v.2
    intro e5
    have h := h e5
    have v := v e5
    refine jcX11_isWithin ?_ _ _ _ _ h v
    intro r9 σ8 h v
    refine ⟨?_, ?_⟩
    · have h := h.1
      have v := v.1
      intro e6
      have h := h e6
      have v := v e6
      refine jcX11_isWithin ?_ _ _ _ _ h v
      intro r12 σ11 h v
      refine ⟨?_, ?_⟩
      · have h := h.1
        have v := v.1
        intro e7
        have h := h e7
        have v := v e7
        exact hQ _ _ h v
      · have h := h.2
        have v := v.2
        intro e8
        have h := h e8
        have v := v e8
        refine jcX11_isWithin ?_ _ _ _ _ h v
        intro r15 σ14 h v
        refine ⟨?_, ?_⟩
        · have h := h.1
          have v := v.1
          intro e9
          have h := h e9
          have v := v e9
          refine ⟨h.1, ?_⟩
          have v := v h.1
          have h := h.2
          intro p18 e11 e12
          have h := h p18 e11 e12
          have v := v p18 e11 e12
          intro σ21 e13
          have h := h σ21 e13
          have v := v σ21 e13
          refine ⟨h.1, ?_⟩
          have v := v h.1
          have h := h.2
          obtain ⟨a24, e15, h⟩ := h
          refine ⟨a24, e15, ?_⟩
          have v := v a24 e15
          refine ⟨h.1, ?_⟩
          have v := v h.1
          have h := h.2
          refine jcJx4a65c_size_8abf5 ?_ _ _ h v
          intro r27 σ26 h v
          refine jcX6_init ?_ _ _ _ _ _ _ h v
          intro σ29 h v
          refine ⟨h.1, ?_⟩
          have v := v h.1
          have h := h.2
          obtain ⟨a31, e18, h⟩ := h
          refine ⟨a31, e18, ?_⟩
          have v := v a31 e18
          refine ⟨h.1, ?_⟩
          have v := v h.1
          have h := h.2
          refine jcJx4a65c_add_9ea2d ?_ _ _ _ h v
          intro r34 σ33 h v
          refine ⟨h.1, ?_⟩
          have v := v h.1
          have h := h.2
          exact hQ _ _ h v
        · have h := h.2
          have v := v.2
          intro e21
          have h := h e21
          have v := v e21
          exact hQ _ _ h v
    · have h := h.2
      have v := v.2
      intro e22
      have h := h e22
      have v := v e22
      exact hQ _ _ h v
set_option maxRecDepth 100000 in
set_option maxHeartbeats 4000000 in
theorem jaX11_cut {Q Q' : Int32 → kx_S → Prop} (hQ : ∀ y0 y1, Q y0 y1 → Q' y0 y1) : ∀ (l0 : Nat) (l1 : Int32) (l2 : Int32) (l3 : Int32) (σ : kx_S), wX11_cut l0 l1 l2 l3 σ Q → vX11_cut l0 l1 l2 l3 σ Q' := by
  intro l0 l1 l2 l3 σ h
  unfold wX11_cut at h
  unfold vX11_cut
  intro e1
  have h := h.2
  obtain ⟨a2', e2, h⟩ := h
  intro a2 e3
  have x9 : a2' = a2 := Option.some.inj (e2.symm.trans e3)
  rw [x9] at h
  intro e4
  have h := h.2
  refine jaJx4a65c_size_8abf5 ?_ _ _ h
  intro r5 σ4 h
  refine ⟨?_, ?_⟩
  · have h := h.1
    intro e5
    have h := h e5
    exact hQ _ _ h
  · have h := h.2
    intro e6
    have h := h e6
    refine jaX11_isWithin ?_ _ _ _ _ h
    intro r9 σ8 h
    refine ⟨?_, ?_⟩
    · have h := h.1
      intro e7
      have h := h e7
      refine jaX11_isWithin ?_ _ _ _ _ h
      intro r12 σ11 h
      refine ⟨?_, ?_⟩
      · have h := h.1
        intro e8
        have h := h e8
        exact hQ _ _ h
      · have h := h.2
        intro e9
        have h := h e9
        refine jaX11_isWithin ?_ _ _ _ _ h
        intro r15 σ14 h
        refine ⟨?_, ?_⟩
        · have h := h.1
          intro e10
          have h := h e10
          intro e11
          have h := h.2
          intro p18 e12 e13
          have h := h p18 e12 e13
          intro σ21 e14
          have h := h σ21 e14
          intro e15
          have h := h.2
          obtain ⟨a24', e16, h⟩ := h
          intro a24 e17
          have x9 : a24' = a24 := Option.some.inj (e16.symm.trans e17)
          rw [x9] at h
          intro e18
          have h := h.2
          refine jaJx4a65c_size_8abf5 ?_ _ _ h
          intro r27 σ26 h
          refine jaX6_init ?_ _ _ _ _ _ _ h
          intro σ29 h
          intro e19
          have h := h.2
          obtain ⟨a31', e20, h⟩ := h
          intro a31 e21
          have x9 : a31' = a31 := Option.some.inj (e20.symm.trans e21)
          rw [x9] at h
          intro e22
          have h := h.2
          refine jaJx4a65c_add_9ea2d ?_ _ _ _ h
          intro r34 σ33 h
          intro e23
          have h := h.2
          exact hQ _ _ h
        · have h := h.2
          intro e24
          have h := h e24
          exact hQ _ _ h
    · have h := h.2
      intro e25
      have h := h e25
      exact hQ _ _ h
set_option maxRecDepth 100000 in
set_option maxHeartbeats 4000000 in
theorem jfX11_cut {I : kx_S → Prop} (W : fw_ I [16, 17, 18, 128, 129, 130, 131, 132, 133, 134, 136, 1003, 1108, 1222]) {Q : Int32 → kx_S → Prop} (hQ : ∀ y0 y1, I y1 → Q y0 y1) : ∀ (l0 : Nat) (l1 : Int32) (l2 : Int32) (l3 : Int32) (σ : kx_S), I σ → vX11_cut l0 l1 l2 l3 σ Q := by
  intro l0 l1 l2 l3 σ i
  unfold vX11_cut
  intro e1
  intro a2 e2
  intro e3
  refine jfJx4a65c_size_8abf5 (I := I) (fw_sub W (by decide)) ?_ _ _ i
  intro r5 σ4 iσ4
  refine ⟨?_, ?_⟩
  · intro e4
    exact hQ _ _ iσ4
  · intro e5
    refine jfX11_isWithin (I := I) (fw_sub W (by decide)) ?_ _ _ _ _ iσ4
    intro r9 σ8 iσ8
    refine ⟨?_, ?_⟩
    · intro e6
      refine jfX11_isWithin (I := I) (fw_sub W (by decide)) ?_ _ _ _ _ iσ8
      intro r12 σ11 iσ11
      refine ⟨?_, ?_⟩
      · intro e7
        exact hQ _ _ iσ11
      · intro e8
        refine jfX11_isWithin (I := I) (fw_sub W (by decide)) ?_ _ _ _ _ iσ11
        intro r15 σ14 iσ14
        refine ⟨?_, ?_⟩
        · intro e9
          intro e10
          intro p18 e11 e12
          intro σ21 e13
          have iσ21 : I σ21 := by rw [e13]; exact (W _ iσ14).2.2.2.2.2.2.1 8 (by decide) _ e11
          intro e14
          intro a24 e15
          intro e16
          refine jfJx4a65c_size_8abf5 (I := I) (fw_sub W (by decide)) ?_ _ _ iσ21
          intro r27 σ26 iσ26
          refine jfX6_init (I := I) (fw_sub W (by decide)) ?_ _ _ _ _ _ _ iσ26
          intro σ29 iσ29
          intro e17
          intro a31 e18
          intro e19
          refine jfJx4a65c_add_9ea2d (I := I) (fw_sub W (by decide)) ?_ _ _ _ iσ29
          intro r34 σ33 iσ33
          intro e20
          exact hQ _ _ iσ33
        · intro e21
          exact hQ _ _ iσ14
    · intro e22
      exact hQ _ _ iσ8
def vX11_let (l0 : Nat) (l1 : Int32) (l2 : Int32) (l3 : Int32) (σ : kx_S) (Q : Int32 → kx_S → Prop) (QX : String → kx_S → Prop) : Prop := xt σ l0 = 13 → vX11_logAt l0 l1 σ (fun b2 σ1 => xt σ1 l0 = 13 → vX11_reachAt l0 l2 σ1 (fun b5 σ4 => vX11_checkCell b5 l3 σ4 (fun σ7 => xt σ7 b2 = 8 → (((xi σ7 132 b2) = 0 → xt σ7 l0 = 13 → ∀ a11, xr σ7 215 l0 = some a11 → vX11_lawInForce l0 σ7 (fun q14 σ13 => xt σ13 l0 = 13 → xt σ13 a11 = 5 → vX3_weigh a11 q14 b2 l2 (xi σ13 217 l0) σ13 (fun σ16 => xt σ16 l0 = 13 → ∀ a19, xr σ16 215 l0 = some a19 → xt σ16 a19 = 5 → (((xi σ16 83 a19) = 0 → xt σ16 b5 = 10 → vX8_takes b5 b2 l3 σ16 (fun r24 σ23 => ((r24 = 0 → Q 3 σ23) ∧ (¬ (r24 = 0) → Q 0 σ23)))) ∧ (¬ ((xi σ16 83 a19) = 0) → Q 2 σ16))))) ∧ (¬ ((xi σ7 132 b2) = 0) → Q 1 σ7))) QX) QX) QX
set_option maxRecDepth 100000 in
set_option maxHeartbeats 4000000 in
theorem jcX11_let {Q Q' Q'' : Int32 → kx_S → Prop} (hQ : ∀ y0 y1, Q y0 y1 → Q' y0 y1 → Q'' y0 y1) {QX QX' QX'' : String → kx_S → Prop} (hX : ∀ y0 y1, QX y0 y1 → QX' y0 y1 → QX'' y0 y1) : ∀ (l0 : Nat) (l1 : Int32) (l2 : Int32) (l3 : Int32) (σ : kx_S), wX11_let l0 l1 l2 l3 σ Q QX → vX11_let l0 l1 l2 l3 σ Q' QX' → wX11_let l0 l1 l2 l3 σ Q'' QX'' := by
  intro l0 l1 l2 l3 σ h v
  unfold wX11_let at h
  unfold vX11_let at v
  unfold wX11_let
  refine ⟨h.1, ?_⟩
  have v := v h.1
  have h := h.2
  refine jcX11_logAt ?_ hX _ _ _ h v
  intro b2 σ1 h v
  refine ⟨h.1, ?_⟩
  have v := v h.1
  have h := h.2
  refine jcX11_reachAt ?_ hX _ _ _ h v
  intro b5 σ4 h v
  refine jcX11_checkCell ?_ hX _ _ _ h v
  intro σ7 h v
  refine ⟨h.1, ?_⟩
  have v := v h.1
  have h := h.2
  refine ⟨?_, ?_⟩
  · have h := h.1
    have v := v.1
    intro e4
    have h := h e4
    have v := v e4
    refine ⟨h.1, ?_⟩
    have v := v h.1
    have h := h.2
    obtain ⟨a11, e6, h⟩ := h
    refine ⟨a11, e6, ?_⟩
    have v := v a11 e6
    refine jcX11_lawInForce ?_ _ _ h v
    intro q14 σ13 h v
    refine ⟨h.1, ?_⟩
    have v := v h.1
    have h := h.2
    refine ⟨h.1, ?_⟩
    have v := v h.1
    have h := h.2
    refine jcX3_weigh ?_ _ _ _ _ _ _ h v
    intro σ16 h v
    refine ⟨h.1, ?_⟩
    have v := v h.1
    have h := h.2
    obtain ⟨a19, e10, h⟩ := h
    refine ⟨a19, e10, ?_⟩
    have v := v a19 e10
    refine ⟨h.1, ?_⟩
    have v := v h.1
    have h := h.2
    refine ⟨?_, ?_⟩
    · have h := h.1
      have v := v.1
      intro e12
      have h := h e12
      have v := v e12
      refine ⟨h.1, ?_⟩
      have v := v h.1
      have h := h.2
      refine jcX8_takes ?_ _ _ _ _ h v
      intro r24 σ23 h v
      refine ⟨?_, ?_⟩
      · have h := h.1
        have v := v.1
        intro e14
        have h := h e14
        have v := v e14
        exact hQ _ _ h v
      · have h := h.2
        have v := v.2
        intro e15
        have h := h e15
        have v := v e15
        exact hQ _ _ h v
    · have h := h.2
      have v := v.2
      intro e16
      have h := h e16
      have v := v e16
      exact hQ _ _ h v
  · have h := h.2
    have v := v.2
    intro e17
    have h := h e17
    have v := v e17
    exact hQ _ _ h v
set_option maxRecDepth 100000 in
set_option maxHeartbeats 4000000 in
theorem jaX11_let {Q Q' : Int32 → kx_S → Prop} (hQ : ∀ y0 y1, Q y0 y1 → Q' y0 y1) {QX QX' : String → kx_S → Prop} (hX : ∀ y0 y1, QX y0 y1 → QX' y0 y1) : ∀ (l0 : Nat) (l1 : Int32) (l2 : Int32) (l3 : Int32) (σ : kx_S), wX11_let l0 l1 l2 l3 σ Q QX → vX11_let l0 l1 l2 l3 σ Q' QX' := by
  intro l0 l1 l2 l3 σ h
  unfold wX11_let at h
  unfold vX11_let
  intro e1
  have h := h.2
  refine jaX11_logAt ?_ hX _ _ _ h
  intro b2 σ1 h
  intro e2
  have h := h.2
  refine jaX11_reachAt ?_ hX _ _ _ h
  intro b5 σ4 h
  refine jaX11_checkCell ?_ hX _ _ _ h
  intro σ7 h
  intro e3
  have h := h.2
  refine ⟨?_, ?_⟩
  · have h := h.1
    intro e4
    have h := h e4
    intro e5
    have h := h.2
    obtain ⟨a11', e6, h⟩ := h
    intro a11 e7
    have x9 : a11' = a11 := Option.some.inj (e6.symm.trans e7)
    rw [x9] at h
    refine jaX11_lawInForce ?_ _ _ h
    intro q14 σ13 h
    intro e8
    have h := h.2
    intro e9
    have h := h.2
    refine jaX3_weigh ?_ _ _ _ _ _ _ h
    intro σ16 h
    intro e10
    have h := h.2
    obtain ⟨a19', e11, h⟩ := h
    intro a19 e12
    have x9 : a19' = a19 := Option.some.inj (e11.symm.trans e12)
    rw [x9] at h
    intro e13
    have h := h.2
    refine ⟨?_, ?_⟩
    · have h := h.1
      intro e14
      have h := h e14
      intro e15
      have h := h.2
      refine jaX8_takes ?_ _ _ _ _ h
      intro r24 σ23 h
      refine ⟨?_, ?_⟩
      · have h := h.1
        intro e16
        have h := h e16
        exact hQ _ _ h
      · have h := h.2
        intro e17
        have h := h e17
        exact hQ _ _ h
    · have h := h.2
      intro e18
      have h := h e18
      exact hQ _ _ h
  · have h := h.2
    intro e19
    have h := h e19
    exact hQ _ _ h
set_option maxRecDepth 100000 in
set_option maxHeartbeats 4000000 in
theorem jfX11_let {I : kx_S → Prop} (W : fw_ I [16, 17, 18, 82, 83, 84, 132, 133, 134, 1001, 1003, 1005, 1222]) {Q : Int32 → kx_S → Prop} (hQ : ∀ y0 y1, I y1 → Q y0 y1) {QX : String → kx_S → Prop} (hX : ∀ y0 y1, I y1 → QX y0 y1) : ∀ (l0 : Nat) (l1 : Int32) (l2 : Int32) (l3 : Int32) (σ : kx_S), I σ → vX11_let l0 l1 l2 l3 σ Q QX := by
  intro l0 l1 l2 l3 σ i
  unfold vX11_let
  intro e1
  refine jfX11_logAt (I := I) (fw_sub W (by decide)) ?_ hX _ _ _ i
  intro b2 σ1 iσ1
  intro e2
  refine jfX11_reachAt (I := I) (fw_sub W (by decide)) ?_ hX _ _ _ iσ1
  intro b5 σ4 iσ4
  refine jfX11_checkCell (I := I) (fw_sub W (by decide)) ?_ hX _ _ _ iσ4
  intro σ7 iσ7
  intro e3
  refine ⟨?_, ?_⟩
  · intro e4
    intro e5
    intro a11 e6
    refine jfX11_lawInForce (I := I) (fw_sub W (by decide)) ?_ _ _ iσ7
    intro q14 σ13 iσ13
    intro e7
    intro e8
    refine jfX3_weigh (I := I) (fw_sub W (by decide)) ?_ _ _ _ _ _ _ iσ13
    intro σ16 iσ16
    intro e9
    intro a19 e10
    intro e11
    refine ⟨?_, ?_⟩
    · intro e12
      intro e13
      refine jfX8_takes (I := I) (fw_sub W (by decide)) ?_ _ _ _ _ iσ16
      intro r24 σ23 iσ23
      refine ⟨?_, ?_⟩
      · intro e14
        exact hQ _ _ iσ23
      · intro e15
        exact hQ _ _ iσ23
    · intro e16
      exact hQ _ _ iσ16
  · intro e17
    exact hQ _ _ iσ7
def vX11_order (l0 : Nat) (l1 : Int32) (l2 : Int32) (l3 : Int32) (l4 : Int32) (σ : kx_S) (Q : Int32 → kx_S → Prop) (QX : String → kx_S → Prop) : Prop := xt σ l0 = 13 → vX11_reachAt l0 l1 σ (fun b2 σ1 => xt σ1 b2 = 10 → ((xr σ1 172 b2 = none → Q (-1) σ1) ∧ (∀ a6, xr σ1 172 b2 = some a6 → xt σ1 l0 = 13 → ∀ a8, xr σ1 212 l0 = some a8 → xt σ1 a8 = 1 → vJx4a65c_size_8abf5 a8 σ1 (fun r11 σ10 => ((r11 < 60 → vX11_isWithin l2 0 15 σ10 (fun r15 σ14 => ((r15 = 0 → Q (-1) σ14) ∧ (¬ (r15 = 0) → vX11_isWithin l3 1 9 σ14 (fun r18 σ17 => ((r18 = 0 → Q (-1) σ17) ∧ (¬ (r18 = 0) → vX11_isWithin l4 1 100 σ17 (fun r21 σ20 => ((¬ r21 = 0 → xc σ20 < kx_N → ∀ p24, xt σ20 p24 = 0 → p24 ≠ xz σ20 → ∀ σ27, σ27 = xnew σ20 p24 9 → vX7_init p24 l2 l3 l4 σ27 (fun σ29 => xt σ29 l0 = 13 → ∀ a31, xr σ29 212 l0 = some a31 → xt σ29 a31 = 1 → vJx4a65c_add_9ea2d a31 p24 σ29 (fun r34 σ33 => xt σ33 b2 = 10 → ∀ a37, xr σ33 172 b2 = some a37 → xt σ33 a37 = 2 → ∀ a40, xr σ33 33 a37 = some a40 → xt σ33 a40 = 1 → vJx4a65c_add_9ea2d a40 p24 σ33 (fun r43 σ42 => xt σ42 l0 = 13 → ∀ a46, xr σ42 212 l0 = some a46 → xt σ42 a46 = 1 → vJx4a65c_size_8abf5 a46 σ42 (fun r49 σ48 => Q (r49 - 1) σ48))))) ∧ (r21 = 0 → Q (-1) σ20)))))))))) ∧ (¬ (r11 < 60) → Q (-1) σ10)))))) QX
set_option maxRecDepth 100000 in
set_option maxHeartbeats 4000000 in
theorem jcX11_order {Q Q' Q'' : Int32 → kx_S → Prop} (hQ : ∀ y0 y1, Q y0 y1 → Q' y0 y1 → Q'' y0 y1) {QX QX' QX'' : String → kx_S → Prop} (hX : ∀ y0 y1, QX y0 y1 → QX' y0 y1 → QX'' y0 y1) : ∀ (l0 : Nat) (l1 : Int32) (l2 : Int32) (l3 : Int32) (l4 : Int32) (σ : kx_S), wX11_order l0 l1 l2 l3 l4 σ Q QX → vX11_order l0 l1 l2 l3 l4 σ Q' QX' → wX11_order l0 l1 l2 l3 l4 σ Q'' QX'' := by
  intro l0 l1 l2 l3 l4 σ h v
  unfold wX11_order at h
  unfold vX11_order at v
  unfold wX11_order
  refine ⟨h.1, ?_⟩
  have v := v h.1
  have h := h.2
  refine jcX11_reachAt ?_ hX _ _ _ h v
  intro b2 σ1 h v
  refine ⟨h.1, ?_⟩
  have v := v h.1
  have h := h.2
  refine ⟨?_, ?_⟩
  · have h := h.1
    have v := v.1
    intro e3
    have h := h e3
    have v := v e3
    exact hQ _ _ h v
  · have h := h.2
    have v := v.2
    intro a6 e4
    have h := h a6 e4
    have v := v a6 e4
    refine ⟨h.1, ?_⟩
    have v := v h.1
    have h := h.2
    obtain ⟨a8, e6, h⟩ := h
    refine ⟨a8, e6, ?_⟩
    have v := v a8 e6
    refine ⟨h.1, ?_⟩
    have v := v h.1
    have h := h.2
    refine jcJx4a65c_size_8abf5 ?_ _ _ h v
    intro r11 σ10 h v
    refine ⟨?_, ?_⟩
    · have h := h.1
      have v := v.1
      intro e8
      have h := h e8
      have v := v e8
      refine jcX11_isWithin ?_ _ _ _ _ h v
      intro r15 σ14 h v
      refine ⟨?_, ?_⟩
      · have h := h.1
        have v := v.1
        intro e9
        have h := h e9
        have v := v e9
        exact hQ _ _ h v
      · have h := h.2
        have v := v.2
        intro e10
        have h := h e10
        have v := v e10
        refine jcX11_isWithin ?_ _ _ _ _ h v
        intro r18 σ17 h v
        refine ⟨?_, ?_⟩
        · have h := h.1
          have v := v.1
          intro e11
          have h := h e11
          have v := v e11
          exact hQ _ _ h v
        · have h := h.2
          have v := v.2
          intro e12
          have h := h e12
          have v := v e12
          refine jcX11_isWithin ?_ _ _ _ _ h v
          intro r21 σ20 h v
          refine ⟨?_, ?_⟩
          · have h := h.1
            have v := v.1
            intro e13
            have h := h e13
            have v := v e13
            refine ⟨h.1, ?_⟩
            have v := v h.1
            have h := h.2
            intro p24 e15 e16
            have h := h p24 e15 e16
            have v := v p24 e15 e16
            intro σ27 e17
            have h := h σ27 e17
            have v := v σ27 e17
            refine jcX7_init ?_ _ _ _ _ _ h v
            intro σ29 h v
            refine ⟨h.1, ?_⟩
            have v := v h.1
            have h := h.2
            obtain ⟨a31, e19, h⟩ := h
            refine ⟨a31, e19, ?_⟩
            have v := v a31 e19
            refine ⟨h.1, ?_⟩
            have v := v h.1
            have h := h.2
            refine jcJx4a65c_add_9ea2d ?_ _ _ _ h v
            intro r34 σ33 h v
            refine ⟨h.1, ?_⟩
            have v := v h.1
            have h := h.2
            obtain ⟨a37, e22, h⟩ := h
            refine ⟨a37, e22, ?_⟩
            have v := v a37 e22
            refine ⟨h.1, ?_⟩
            have v := v h.1
            have h := h.2
            obtain ⟨a40, e24, h⟩ := h
            refine ⟨a40, e24, ?_⟩
            have v := v a40 e24
            refine ⟨h.1, ?_⟩
            have v := v h.1
            have h := h.2
            refine jcJx4a65c_add_9ea2d ?_ _ _ _ h v
            intro r43 σ42 h v
            refine ⟨h.1, ?_⟩
            have v := v h.1
            have h := h.2
            obtain ⟨a46, e27, h⟩ := h
            refine ⟨a46, e27, ?_⟩
            have v := v a46 e27
            refine ⟨h.1, ?_⟩
            have v := v h.1
            have h := h.2
            refine jcJx4a65c_size_8abf5 ?_ _ _ h v
            intro r49 σ48 h v
            exact hQ _ _ h v
          · have h := h.2
            have v := v.2
            intro e29
            have h := h e29
            have v := v e29
            exact hQ _ _ h v
    · have h := h.2
      have v := v.2
      intro e30
      have h := h e30
      have v := v e30
      exact hQ _ _ h v
set_option maxRecDepth 100000 in
set_option maxHeartbeats 4000000 in
theorem jaX11_order {Q Q' : Int32 → kx_S → Prop} (hQ : ∀ y0 y1, Q y0 y1 → Q' y0 y1) {QX QX' : String → kx_S → Prop} (hX : ∀ y0 y1, QX y0 y1 → QX' y0 y1) : ∀ (l0 : Nat) (l1 : Int32) (l2 : Int32) (l3 : Int32) (l4 : Int32) (σ : kx_S), wX11_order l0 l1 l2 l3 l4 σ Q QX → vX11_order l0 l1 l2 l3 l4 σ Q' QX' := by
  intro l0 l1 l2 l3 l4 σ h
  unfold wX11_order at h
  unfold vX11_order
  intro e1
  have h := h.2
  refine jaX11_reachAt ?_ hX _ _ _ h
  intro b2 σ1 h
  intro e2
  have h := h.2
  refine ⟨?_, ?_⟩
  · have h := h.1
    intro e3
    have h := h e3
    exact hQ _ _ h
  · have h := h.2
    intro a6 e4
    have h := h a6 e4
    intro e5
    have h := h.2
    obtain ⟨a8', e6, h⟩ := h
    intro a8 e7
    have x9 : a8' = a8 := Option.some.inj (e6.symm.trans e7)
    rw [x9] at h
    intro e8
    have h := h.2
    refine jaJx4a65c_size_8abf5 ?_ _ _ h
    intro r11 σ10 h
    refine ⟨?_, ?_⟩
    · have h := h.1
      intro e9
      have h := h e9
      refine jaX11_isWithin ?_ _ _ _ _ h
      intro r15 σ14 h
      refine ⟨?_, ?_⟩
      · have h := h.1
        intro e10
        have h := h e10
        exact hQ _ _ h
      · have h := h.2
        intro e11
        have h := h e11
        refine jaX11_isWithin ?_ _ _ _ _ h
        intro r18 σ17 h
        refine ⟨?_, ?_⟩
        · have h := h.1
          intro e12
          have h := h e12
          exact hQ _ _ h
        · have h := h.2
          intro e13
          have h := h e13
          refine jaX11_isWithin ?_ _ _ _ _ h
          intro r21 σ20 h
          refine ⟨?_, ?_⟩
          · have h := h.1
            intro e14
            have h := h e14
            intro e15
            have h := h.2
            intro p24 e16 e17
            have h := h p24 e16 e17
            intro σ27 e18
            have h := h σ27 e18
            refine jaX7_init ?_ _ _ _ _ _ h
            intro σ29 h
            intro e19
            have h := h.2
            obtain ⟨a31', e20, h⟩ := h
            intro a31 e21
            have x9 : a31' = a31 := Option.some.inj (e20.symm.trans e21)
            rw [x9] at h
            intro e22
            have h := h.2
            refine jaJx4a65c_add_9ea2d ?_ _ _ _ h
            intro r34 σ33 h
            intro e23
            have h := h.2
            obtain ⟨a37', e24, h⟩ := h
            intro a37 e25
            have x9 : a37' = a37 := Option.some.inj (e24.symm.trans e25)
            rw [x9] at h
            intro e26
            have h := h.2
            obtain ⟨a40', e27, h⟩ := h
            intro a40 e28
            have x9 : a40' = a40 := Option.some.inj (e27.symm.trans e28)
            rw [x9] at h
            intro e29
            have h := h.2
            refine jaJx4a65c_add_9ea2d ?_ _ _ _ h
            intro r43 σ42 h
            intro e30
            have h := h.2
            obtain ⟨a46', e31, h⟩ := h
            intro a46 e32
            have x9 : a46' = a46 := Option.some.inj (e31.symm.trans e32)
            rw [x9] at h
            intro e33
            have h := h.2
            refine jaJx4a65c_size_8abf5 ?_ _ _ h
            intro r49 σ48 h
            exact hQ _ _ h
          · have h := h.2
            intro e34
            have h := h e34
            exact hQ _ _ h
    · have h := h.2
      intro e35
      have h := h e35
      exact hQ _ _ h
set_option maxRecDepth 100000 in
set_option maxHeartbeats 4000000 in
theorem jfX11_order {I : kx_S → Prop} (W : fw_ I [16, 17, 18, 144, 145, 146, 1003, 1005, 1109, 1222]) {Q : Int32 → kx_S → Prop} (hQ : ∀ y0 y1, I y1 → Q y0 y1) {QX : String → kx_S → Prop} (hX : ∀ y0 y1, I y1 → QX y0 y1) : ∀ (l0 : Nat) (l1 : Int32) (l2 : Int32) (l3 : Int32) (l4 : Int32) (σ : kx_S), I σ → vX11_order l0 l1 l2 l3 l4 σ Q QX := by
  intro l0 l1 l2 l3 l4 σ i
  unfold vX11_order
  intro e1
  refine jfX11_reachAt (I := I) (fw_sub W (by decide)) ?_ hX _ _ _ i
  intro b2 σ1 iσ1
  intro e2
  refine ⟨?_, ?_⟩
  · intro e3
    exact hQ _ _ iσ1
  · intro a6 e4
    intro e5
    intro a8 e6
    intro e7
    refine jfJx4a65c_size_8abf5 (I := I) (fw_sub W (by decide)) ?_ _ _ iσ1
    intro r11 σ10 iσ10
    refine ⟨?_, ?_⟩
    · intro e8
      refine jfX11_isWithin (I := I) (fw_sub W (by decide)) ?_ _ _ _ _ iσ10
      intro r15 σ14 iσ14
      refine ⟨?_, ?_⟩
      · intro e9
        exact hQ _ _ iσ14
      · intro e10
        refine jfX11_isWithin (I := I) (fw_sub W (by decide)) ?_ _ _ _ _ iσ14
        intro r18 σ17 iσ17
        refine ⟨?_, ?_⟩
        · intro e11
          exact hQ _ _ iσ17
        · intro e12
          refine jfX11_isWithin (I := I) (fw_sub W (by decide)) ?_ _ _ _ _ iσ17
          intro r21 σ20 iσ20
          refine ⟨?_, ?_⟩
          · intro e13
            intro e14
            intro p24 e15 e16
            intro σ27 e17
            have iσ27 : I σ27 := by rw [e17]; exact (W _ iσ20).2.2.2.2.2.2.1 9 (by decide) _ e15
            refine jfX7_init (I := I) (fw_sub W (by decide)) ?_ _ _ _ _ _ iσ27
            intro σ29 iσ29
            intro e18
            intro a31 e19
            intro e20
            refine jfJx4a65c_add_9ea2d (I := I) (fw_sub W (by decide)) ?_ _ _ _ iσ29
            intro r34 σ33 iσ33
            intro e21
            intro a37 e22
            intro e23
            intro a40 e24
            intro e25
            refine jfJx4a65c_add_9ea2d (I := I) (fw_sub W (by decide)) ?_ _ _ _ iσ33
            intro r43 σ42 iσ42
            intro e26
            intro a46 e27
            intro e28
            refine jfJx4a65c_size_8abf5 (I := I) (fw_sub W (by decide)) ?_ _ _ iσ42
            intro r49 σ48 iσ48
            exact hQ _ _ iσ48
          · intro e29
            exact hQ _ _ iσ20
    · intro e30
      exact hQ _ _ iσ10
end
section
def vX11_runWater_131 (k69 : Nat → Int32 → kx_S → Prop) (Q : kx_S → Prop) (l0 : Nat) (l1 : Int32) (σ : kx_S) : Prop := ∀ v1 : Int32, v1 = l1 + (-1) → k69 l0 v1 σ
set_option maxRecDepth 100000 in
set_option maxHeartbeats 4000000 in
theorem jcX11_runWater_131 {k69 k69' k69'' : Nat → Int32 → kx_S → Prop} (hk69 : ∀ y0 y1 y2, k69 y0 y1 y2 → k69' y0 y1 y2 → k69'' y0 y1 y2) {Q Q' Q'' : kx_S → Prop} (hQ : ∀ y0, Q y0 → Q' y0 → Q'' y0) : ∀ (l0 : Nat) (l1 : Int32) (σ : kx_S), wX11_runWater_131 k69 Q l0 l1 σ → vX11_runWater_131 k69' Q' l0 l1 σ → wX11_runWater_131 k69'' Q'' l0 l1 σ := by
  intro l0 l1 σ h v
  unfold wX11_runWater_131 at h
  unfold vX11_runWater_131 at v
  unfold wX11_runWater_131
  intro v1 e1
  have h := h v1 e1
  have v := v v1 e1
  exact hk69 _ _ _ h v
set_option maxRecDepth 100000 in
set_option maxHeartbeats 4000000 in
theorem jaX11_runWater_131 {k69 k69' : Nat → Int32 → kx_S → Prop} (hk69 : ∀ y0 y1 y2, k69 y0 y1 y2 → k69' y0 y1 y2) {Q Q' : kx_S → Prop} (hQ : ∀ y0, Q y0 → Q' y0) : ∀ (l0 : Nat) (l1 : Int32) (σ : kx_S), wX11_runWater_131 k69 Q l0 l1 σ → vX11_runWater_131 k69' Q' l0 l1 σ := by
  intro l0 l1 σ h
  unfold wX11_runWater_131 at h
  unfold vX11_runWater_131
  intro v1 e1
  have h := h v1 e1
  exact hk69 _ _ _ h
set_option maxRecDepth 100000 in
set_option maxHeartbeats 4000000 in
theorem jfX11_runWater_131 {I : kx_S → Prop} (W : fw_ I []) {k69 : Nat → Int32 → kx_S → Prop} (hk69 : ∀ y0 y1 y2, I y2 → k69 y0 y1 y2) {Q : kx_S → Prop} (hQ : ∀ y0, I y0 → Q y0) : ∀ (l0 : Nat) (l1 : Int32) (σ : kx_S), I σ → vX11_runWater_131 k69 Q l0 l1 σ := by
  intro l0 l1 σ i
  unfold vX11_runWater_131
  intro v1 e1
  exact hk69 _ _ _ i
def vX11_runWater_2 (k57 : Nat → kx_S → Prop) (Q : kx_S → Prop) : Nat → Nat → Int32 → kx_S → Prop
  | 0, _, _, _ => True
  | n + 1, l0, l1, σ => xt σ l0 = 13 → ∀ a3, xr σ 208 l0 = some a3 → xt σ a3 = 1 → vJx4a65c_size_8abf5 a3 σ (fun r6 σ5 => ((r6 ≤ l1 → k57 l0 σ5) ∧ (¬ (r6 ≤ l1) → xt σ5 l0 = 13 → ∀ a10, xr σ5 208 l0 = some a10 → xt σ5 a10 = 1 → vJx4a65c_get_915e3 a10 l1 σ5 (fun q13 σ12 => ∀ a15, q13 = some a15 → xt σ12 a15 = 10 → ∀ σ18, σ18 = xsi σ12 169 a15 (xi σ12 164 a15) → xt σ18 l0 = 13 → ∀ σ21, σ21 = xsl σ18 220 l0 ((xl σ18 220 l0) + ((xi σ18 164 a15).toInt64)) → ∀ v24 : Int32, v24 = l1 + 1 → vX11_runWater_2 k57 Q n l0 v24 σ21))))
set_option maxRecDepth 100000 in
set_option maxHeartbeats 4000000 in
theorem jcX11_runWater_2 {k57 k57' k57'' : Nat → kx_S → Prop} (hk57 : ∀ y0 y1, k57 y0 y1 → k57' y0 y1 → k57'' y0 y1) {Q Q' Q'' : kx_S → Prop} (hQ : ∀ y0, Q y0 → Q' y0 → Q'' y0) : ∀ (n : Nat) (l0 : Nat) (l1 : Int32) (σ : kx_S), wX11_runWater_2 k57 Q n l0 l1 σ → vX11_runWater_2 k57' Q' n l0 l1 σ → wX11_runWater_2 k57'' Q'' n l0 l1 σ := by
  intro n
  induction n with
  | zero => intro l0 l1 σ h; exact h.elim
  | succ n ih =>
    intro l0 l1 σ h v
    unfold wX11_runWater_2 at h
    unfold vX11_runWater_2 at v
    unfold wX11_runWater_2
    refine ⟨h.1, ?_⟩
    have v := v h.1
    have h := h.2
    obtain ⟨a3, e2, h⟩ := h
    refine ⟨a3, e2, ?_⟩
    have v := v a3 e2
    refine ⟨h.1, ?_⟩
    have v := v h.1
    have h := h.2
    refine jcJx4a65c_size_8abf5 ?_ _ _ h v
    intro r6 σ5 h v
    refine ⟨?_, ?_⟩
    · have h := h.1
      have v := v.1
      intro e4
      have h := h e4
      have v := v e4
      exact hk57 _ _ h v
    · have h := h.2
      have v := v.2
      intro e5
      have h := h e5
      have v := v e5
      refine ⟨h.1, ?_⟩
      have v := v h.1
      have h := h.2
      obtain ⟨a10, e7, h⟩ := h
      refine ⟨a10, e7, ?_⟩
      have v := v a10 e7
      refine ⟨h.1, ?_⟩
      have v := v h.1
      have h := h.2
      refine jcJx4a65c_get_915e3 ?_ _ _ _ h v
      intro q13 σ12 h v
      obtain ⟨a15, e9, h⟩ := h
      refine ⟨a15, e9, ?_⟩
      have v := v a15 e9
      refine ⟨h.1, ?_⟩
      have v := v h.1
      have h := h.2
      intro σ18 e11
      have h := h σ18 e11
      have v := v σ18 e11
      refine ⟨h.1, ?_⟩
      have v := v h.1
      have h := h.2
      intro σ21 e13
      have h := h σ21 e13
      have v := v σ21 e13
      intro v24 e14
      have h := h v24 e14
      have v := v v24 e14
      exact ih _ _ _ h v
set_option maxRecDepth 100000 in
set_option maxHeartbeats 4000000 in
theorem jaX11_runWater_2 {k57 k57' : Nat → kx_S → Prop} (hk57 : ∀ y0 y1, k57 y0 y1 → k57' y0 y1) {Q Q' : kx_S → Prop} (hQ : ∀ y0, Q y0 → Q' y0) : ∀ (n m : Nat) (l0 : Nat) (l1 : Int32) (σ : kx_S), wX11_runWater_2 k57 Q n l0 l1 σ → vX11_runWater_2 k57' Q' m l0 l1 σ := by
  intro n
  induction n with
  | zero => intro m l0 l1 σ h; exact h.elim
  | succ n ih =>
    intro m l0 l1 σ h
    cases m with
    | zero => exact trivial
    | succ m =>
      unfold wX11_runWater_2 at h
      unfold vX11_runWater_2
      intro e1
      have h := h.2
      obtain ⟨a3', e2, h⟩ := h
      intro a3 e3
      have x9 : a3' = a3 := Option.some.inj (e2.symm.trans e3)
      rw [x9] at h
      intro e4
      have h := h.2
      refine jaJx4a65c_size_8abf5 ?_ _ _ h
      intro r6 σ5 h
      refine ⟨?_, ?_⟩
      · have h := h.1
        intro e5
        have h := h e5
        exact hk57 _ _ h
      · have h := h.2
        intro e6
        have h := h e6
        intro e7
        have h := h.2
        obtain ⟨a10', e8, h⟩ := h
        intro a10 e9
        have x9 : a10' = a10 := Option.some.inj (e8.symm.trans e9)
        rw [x9] at h
        intro e10
        have h := h.2
        refine jaJx4a65c_get_915e3 ?_ _ _ _ h
        intro q13 σ12 h
        obtain ⟨a15', e11, h⟩ := h
        intro a15 e12
        have x9 : a15' = a15 := Option.some.inj (e11.symm.trans e12)
        rw [x9] at h
        intro e13
        have h := h.2
        intro σ18 e14
        have h := h σ18 e14
        intro e15
        have h := h.2
        intro σ21 e16
        have h := h σ21 e16
        intro v24 e17
        have h := h v24 e17
        exact ih m _ _ _ h
set_option maxRecDepth 100000 in
set_option maxHeartbeats 4000000 in
theorem jfX11_runWater_2 {I : kx_S → Prop} (W : fw_ I [169, 220]) {k57 : Nat → kx_S → Prop} (hk57 : ∀ y0 y1, I y1 → k57 y0 y1) {Q : kx_S → Prop} (hQ : ∀ y0, I y0 → Q y0) : ∀ (n : Nat) (l0 : Nat) (l1 : Int32) (σ : kx_S), I σ → vX11_runWater_2 k57 Q n l0 l1 σ := by
  intro n
  induction n with
  | zero => intro l0 l1 σ i; exact trivial
  | succ n ih =>
    intro l0 l1 σ i
    unfold vX11_runWater_2
    intro e1
    intro a3 e2
    intro e3
    refine jfJx4a65c_size_8abf5 (I := I) (fw_sub W (by decide)) ?_ _ _ i
    intro r6 σ5 iσ5
    refine ⟨?_, ?_⟩
    · intro e4
      exact hk57 _ _ iσ5
    · intro e5
      intro e6
      intro a10 e7
      intro e8
      refine jfJx4a65c_get_915e3 (I := I) (fw_sub W (by decide)) ?_ _ _ _ iσ5
      intro q13 σ12 iσ12
      intro a15 e9
      intro e10
      intro σ18 e11
      have iσ18 : I σ18 := by rw [e11]; exact ((W _ iσ12).1 169 (by decide)).1 _ _
      intro e12
      intro σ21 e13
      have iσ21 : I σ21 := by rw [e13]; exact ((W _ iσ18).1 220 (by decide)).2.2 _ _
      intro v24 e14
      exact ih _ _ _ iσ21
def vX11_runWater_69 (Q : kx_S → Prop) : Nat → Nat → Int32 → kx_S → Prop
  | 0, _, _, _ => True
  | n + 1, l0, l1, σ => ((l1 < 0 → Q σ) ∧ (¬ (l1 < 0) → xt σ l0 = 13 → ∀ a27, xr σ 208 l0 = some a27 → xt σ a27 = 1 → vJx4a65c_get_915e3 a27 l1 σ (fun q30 σ29 => ∀ a32, q30 = some a32 → xt σ29 a32 = 10 → vX8_passWater a32 σ29 (fun σ35 => xt σ35 a32 = 10 → ((∀ a38, xr σ35 161 a32 = some a38 → ∀ a39, xr σ35 161 a32 = some a39 → xt σ35 a39 = 10 → ∀ σ42, σ42 = xsi σ35 169 a39 ((xi σ35 169 a39) + (xi σ35 170 a32)) → vX11_runWater_131 (vX11_runWater_69 Q n) Q l0 l1 σ42) ∧ (xr σ35 161 a32 = none → xt σ35 l0 = 13 → ∀ σ46, σ46 = xsl σ35 221 l0 ((xl σ35 221 l0) + ((xi σ35 170 a32).toInt64)) → vX11_runWater_131 (vX11_runWater_69 Q n) Q l0 l1 σ46))))))
set_option maxRecDepth 100000 in
set_option maxHeartbeats 4000000 in
theorem jcX11_runWater_69 {Q Q' Q'' : kx_S → Prop} (hQ : ∀ y0, Q y0 → Q' y0 → Q'' y0) : ∀ (n : Nat) (l0 : Nat) (l1 : Int32) (σ : kx_S), wX11_runWater_69 Q n l0 l1 σ → vX11_runWater_69 Q' n l0 l1 σ → wX11_runWater_69 Q'' n l0 l1 σ := by
  intro n
  induction n with
  | zero => intro l0 l1 σ h; exact h.elim
  | succ n ih =>
    intro l0 l1 σ h v
    unfold wX11_runWater_69 at h
    unfold vX11_runWater_69 at v
    unfold wX11_runWater_69
    refine ⟨?_, ?_⟩
    · have h := h.1
      have v := v.1
      intro e1
      have h := h e1
      have v := v e1
      exact hQ _ h v
    · have h := h.2
      have v := v.2
      intro e2
      have h := h e2
      have v := v e2
      refine ⟨h.1, ?_⟩
      have v := v h.1
      have h := h.2
      obtain ⟨a27, e4, h⟩ := h
      refine ⟨a27, e4, ?_⟩
      have v := v a27 e4
      refine ⟨h.1, ?_⟩
      have v := v h.1
      have h := h.2
      refine jcJx4a65c_get_915e3 ?_ _ _ _ h v
      intro q30 σ29 h v
      obtain ⟨a32, e6, h⟩ := h
      refine ⟨a32, e6, ?_⟩
      have v := v a32 e6
      refine ⟨h.1, ?_⟩
      have v := v h.1
      have h := h.2
      refine jcX8_passWater ?_ _ _ h v
      intro σ35 h v
      refine ⟨h.1, ?_⟩
      have v := v h.1
      have h := h.2
      refine ⟨?_, ?_⟩
      · have h := h.1
        have v := v.1
        intro a38 e9
        have h := h a38 e9
        have v := v a38 e9
        obtain ⟨a39, e10, h⟩ := h
        refine ⟨a39, e10, ?_⟩
        have v := v a39 e10
        refine ⟨h.1, ?_⟩
        have v := v h.1
        have h := h.2
        intro σ42 e12
        have h := h σ42 e12
        have v := v σ42 e12
        exact jcX11_runWater_131 (k69 := wX11_runWater_69 Q n) (k69' := vX11_runWater_69 Q' n) (k69'' := wX11_runWater_69 Q'' n) (fun _ _ _ h v => ih _ _ _ h v) hQ _ _ _ h v
      · have h := h.2
        have v := v.2
        intro e13
        have h := h e13
        have v := v e13
        refine ⟨h.1, ?_⟩
        have v := v h.1
        have h := h.2
        intro σ46 e15
        have h := h σ46 e15
        have v := v σ46 e15
        exact jcX11_runWater_131 (k69 := wX11_runWater_69 Q n) (k69' := vX11_runWater_69 Q' n) (k69'' := wX11_runWater_69 Q'' n) (fun _ _ _ h v => ih _ _ _ h v) hQ _ _ _ h v
set_option maxRecDepth 100000 in
set_option maxHeartbeats 4000000 in
theorem jaX11_runWater_69 {Q Q' : kx_S → Prop} (hQ : ∀ y0, Q y0 → Q' y0) : ∀ (n m : Nat) (l0 : Nat) (l1 : Int32) (σ : kx_S), wX11_runWater_69 Q n l0 l1 σ → vX11_runWater_69 Q' m l0 l1 σ := by
  intro n
  induction n with
  | zero => intro m l0 l1 σ h; exact h.elim
  | succ n ih =>
    intro m l0 l1 σ h
    cases m with
    | zero => exact trivial
    | succ m =>
      unfold wX11_runWater_69 at h
      unfold vX11_runWater_69
      refine ⟨?_, ?_⟩
      · have h := h.1
        intro e1
        have h := h e1
        exact hQ _ h
      · have h := h.2
        intro e2
        have h := h e2
        intro e3
        have h := h.2
        obtain ⟨a27', e4, h⟩ := h
        intro a27 e5
        have x9 : a27' = a27 := Option.some.inj (e4.symm.trans e5)
        rw [x9] at h
        intro e6
        have h := h.2
        refine jaJx4a65c_get_915e3 ?_ _ _ _ h
        intro q30 σ29 h
        obtain ⟨a32', e7, h⟩ := h
        intro a32 e8
        have x9 : a32' = a32 := Option.some.inj (e7.symm.trans e8)
        rw [x9] at h
        intro e9
        have h := h.2
        refine jaX8_passWater ?_ _ _ h
        intro σ35 h
        intro e10
        have h := h.2
        refine ⟨?_, ?_⟩
        · have h := h.1
          intro a38 e11
          have h := h a38 e11
          obtain ⟨a39', e12, h⟩ := h
          intro a39 e13
          have x9 : a39' = a39 := Option.some.inj (e12.symm.trans e13)
          rw [x9] at h
          intro e14
          have h := h.2
          intro σ42 e15
          have h := h σ42 e15
          exact jaX11_runWater_131 (k69 := wX11_runWater_69 Q n) (k69' := vX11_runWater_69 Q' m) (fun _ _ _ h => ih m _ _ _ h) hQ _ _ _ h
        · have h := h.2
          intro e16
          have h := h e16
          intro e17
          have h := h.2
          intro σ46 e18
          have h := h σ46 e18
          exact jaX11_runWater_131 (k69 := wX11_runWater_69 Q n) (k69' := vX11_runWater_69 Q' m) (fun _ _ _ h => ih m _ _ _ h) hQ _ _ _ h
set_option maxRecDepth 100000 in
set_option maxHeartbeats 4000000 in
theorem jfX11_runWater_69 {I : kx_S → Prop} (W : fw_ I [167, 169, 170, 221]) {Q : kx_S → Prop} (hQ : ∀ y0, I y0 → Q y0) : ∀ (n : Nat) (l0 : Nat) (l1 : Int32) (σ : kx_S), I σ → vX11_runWater_69 Q n l0 l1 σ := by
  intro n
  induction n with
  | zero => intro l0 l1 σ i; exact trivial
  | succ n ih =>
    intro l0 l1 σ i
    unfold vX11_runWater_69
    refine ⟨?_, ?_⟩
    · intro e1
      exact hQ _ i
    · intro e2
      intro e3
      intro a27 e4
      intro e5
      refine jfJx4a65c_get_915e3 (I := I) (fw_sub W (by decide)) ?_ _ _ _ i
      intro q30 σ29 iσ29
      intro a32 e6
      intro e7
      refine jfX8_passWater (I := I) (fw_sub W (by decide)) ?_ _ _ iσ29
      intro σ35 iσ35
      intro e8
      refine ⟨?_, ?_⟩
      · intro a38 e9
        intro a39 e10
        intro e11
        intro σ42 e12
        have iσ42 : I σ42 := by rw [e12]; exact ((W _ iσ35).1 169 (by decide)).1 _ _
        exact jfX11_runWater_131 (I := I) (fw_sub W (by decide)) (k69 := vX11_runWater_69 Q n) (fun _ _ _ i => ih _ _ _ i) hQ _ _ _ iσ42
      · intro e13
        intro e14
        intro σ46 e15
        have iσ46 : I σ46 := by rw [e15]; exact ((W _ iσ35).1 221 (by decide)).2.2 _ _
        exact jfX11_runWater_131 (I := I) (fw_sub W (by decide)) (k69 := vX11_runWater_69 Q n) (fun _ _ _ i => ih _ _ _ i) hQ _ _ _ iσ46
def vX11_runWater_57 (Q : kx_S → Prop) (l0 : Nat) (σ : kx_S) : Prop := xt σ l0 = 13 → ∀ a50, xr σ 208 l0 = some a50 → xt σ a50 = 1 → vJx4a65c_size_8abf5 a50 σ (fun r53 σ52 => ∀ v55, v55 = r53 - 1 → ∀ j, vX11_runWater_69 Q j l0 v55 σ52)
set_option maxRecDepth 100000 in
set_option maxHeartbeats 4000000 in
theorem jcX11_runWater_57 {Q Q' Q'' : kx_S → Prop} (hQ : ∀ y0, Q y0 → Q' y0 → Q'' y0) : ∀ (l0 : Nat) (σ : kx_S), wX11_runWater_57 Q l0 σ → vX11_runWater_57 Q' l0 σ → wX11_runWater_57 Q'' l0 σ := by
  intro l0 σ h v
  unfold wX11_runWater_57 at h
  unfold vX11_runWater_57 at v
  unfold wX11_runWater_57
  refine ⟨h.1, ?_⟩
  have v := v h.1
  have h := h.2
  obtain ⟨a50, e2, h⟩ := h
  refine ⟨a50, e2, ?_⟩
  have v := v a50 e2
  refine ⟨h.1, ?_⟩
  have v := v h.1
  have h := h.2
  refine jcJx4a65c_size_8abf5 ?_ _ _ h v
  intro r53 σ52 h v
  intro v55 e4
  have h := h v55 e4
  have v := v v55 e4
  obtain ⟨j, h⟩ := h
  refine ⟨j, ?_⟩
  have v := v j
  exact jcX11_runWater_69 hQ _ _ _ _ h v
set_option maxRecDepth 100000 in
set_option maxHeartbeats 4000000 in
theorem jaX11_runWater_57 {Q Q' : kx_S → Prop} (hQ : ∀ y0, Q y0 → Q' y0) : ∀ (l0 : Nat) (σ : kx_S), wX11_runWater_57 Q l0 σ → vX11_runWater_57 Q' l0 σ := by
  intro l0 σ h
  unfold wX11_runWater_57 at h
  unfold vX11_runWater_57
  intro e1
  have h := h.2
  obtain ⟨a50', e2, h⟩ := h
  intro a50 e3
  have x9 : a50' = a50 := Option.some.inj (e2.symm.trans e3)
  rw [x9] at h
  intro e4
  have h := h.2
  refine jaJx4a65c_size_8abf5 ?_ _ _ h
  intro r53 σ52 h
  intro v55 e5
  have h := h v55 e5
  obtain ⟨j, h⟩ := h
  intro j9
  exact jaX11_runWater_69 hQ _ j9 _ _ _ h
set_option maxRecDepth 100000 in
set_option maxHeartbeats 4000000 in
theorem jfX11_runWater_57 {I : kx_S → Prop} (W : fw_ I [167, 169, 170, 221]) {Q : kx_S → Prop} (hQ : ∀ y0, I y0 → Q y0) : ∀ (l0 : Nat) (σ : kx_S), I σ → vX11_runWater_57 Q l0 σ := by
  intro l0 σ i
  unfold vX11_runWater_57
  intro e1
  intro a50 e2
  intro e3
  refine jfJx4a65c_size_8abf5 (I := I) (fw_sub W (by decide)) ?_ _ _ i
  intro r53 σ52 iσ52
  intro v55 e4
  intro j
  exact jfX11_runWater_69 (I := I) (fw_sub W (by decide)) hQ _ _ _ _ iσ52
def vX11_runWater (l0 : Nat) (σ : kx_S) (Q : kx_S → Prop) : Prop := ∀ j, vX11_runWater_2 (vX11_runWater_57 Q) Q j l0 0 σ
set_option maxRecDepth 100000 in
set_option maxHeartbeats 4000000 in
theorem jcX11_runWater {Q Q' Q'' : kx_S → Prop} (hQ : ∀ y0, Q y0 → Q' y0 → Q'' y0) : ∀ (l0 : Nat) (σ : kx_S), wX11_runWater l0 σ Q → vX11_runWater l0 σ Q' → wX11_runWater l0 σ Q'' := by
  intro l0 σ h v
  unfold wX11_runWater at h
  unfold vX11_runWater at v
  unfold wX11_runWater
  obtain ⟨j, h⟩ := h
  refine ⟨j, ?_⟩
  have v := v j
  exact jcX11_runWater_2 (k57 := wX11_runWater_57 Q) (k57' := vX11_runWater_57 Q') (k57'' := wX11_runWater_57 Q'') (fun _ _ h v => jcX11_runWater_57 hQ _ _ h v) hQ _ _ _ _ h v
set_option maxRecDepth 100000 in
set_option maxHeartbeats 4000000 in
theorem jaX11_runWater {Q Q' : kx_S → Prop} (hQ : ∀ y0, Q y0 → Q' y0) : ∀ (l0 : Nat) (σ : kx_S), wX11_runWater l0 σ Q → vX11_runWater l0 σ Q' := by
  intro l0 σ h
  unfold wX11_runWater at h
  unfold vX11_runWater
  obtain ⟨j, h⟩ := h
  intro j9
  exact jaX11_runWater_2 (k57 := wX11_runWater_57 Q) (k57' := vX11_runWater_57 Q') (fun _ _ h => jaX11_runWater_57 hQ _ _ h) hQ _ j9 _ _ _ h
set_option maxRecDepth 100000 in
set_option maxHeartbeats 4000000 in
theorem jfX11_runWater {I : kx_S → Prop} (W : fw_ I [167, 169, 170, 220, 221]) {Q : kx_S → Prop} (hQ : ∀ y0, I y0 → Q y0) : ∀ (l0 : Nat) (σ : kx_S), I σ → vX11_runWater l0 σ Q := by
  intro l0 σ i
  unfold vX11_runWater
  intro j
  exact jfX11_runWater_2 (I := I) (fw_sub W (by decide)) (k57 := vX11_runWater_57 Q) (fun _ _ i => jfX11_runWater_57 (I := I) (fw_sub W (by decide)) hQ _ _ i) hQ _ _ _ _ i
def vX11_leaves_122 (Q : Int32 → kx_S → Prop) (l1 : Nat) (l2 : Nat) (σ : kx_S) : Prop := xt σ l2 = 10 → ((∀ a3, xr σ 161 l2 = some a3 → ∀ a4, xr σ 161 l2 = some a4 → xt σ a4 = 10 → vX8_takes a4 l1 0 σ (fun r7 σ6 => narrow .boolean (.int r7) = .int r7 → Q r7 σ6)) ∧ (xr σ 161 l2 = none → xt σ l1 = 8 → vX6_goToSea l1 σ (fun σ9 => Q 1 σ9)))
set_option maxRecDepth 100000 in
set_option maxHeartbeats 4000000 in
theorem jcX11_leaves_122 {Q Q' Q'' : Int32 → kx_S → Prop} (hQ : ∀ y0 y1, Q y0 y1 → Q' y0 y1 → Q'' y0 y1) : ∀ (l1 : Nat) (l2 : Nat) (σ : kx_S), wX11_leaves_122 Q l1 l2 σ → vX11_leaves_122 Q' l1 l2 σ → wX11_leaves_122 Q'' l1 l2 σ := by
  intro l1 l2 σ h v
  unfold wX11_leaves_122 at h
  unfold vX11_leaves_122 at v
  unfold wX11_leaves_122
  refine ⟨h.1, ?_⟩
  have v := v h.1
  have h := h.2
  refine ⟨?_, ?_⟩
  · have h := h.1
    have v := v.1
    intro a3 e2
    have h := h a3 e2
    have v := v a3 e2
    obtain ⟨a4, e3, h⟩ := h
    refine ⟨a4, e3, ?_⟩
    have v := v a4 e3
    refine ⟨h.1, ?_⟩
    have v := v h.1
    have h := h.2
    refine jcX8_takes ?_ _ _ _ _ h v
    intro r7 σ6 h v
    refine ⟨h.1, ?_⟩
    have v := v h.1
    have h := h.2
    exact hQ _ _ h v
  · have h := h.2
    have v := v.2
    intro e6
    have h := h e6
    have v := v e6
    refine ⟨h.1, ?_⟩
    have v := v h.1
    have h := h.2
    refine jcX6_goToSea ?_ _ _ h v
    intro σ9 h v
    exact hQ _ _ h v
set_option maxRecDepth 100000 in
set_option maxHeartbeats 4000000 in
theorem jaX11_leaves_122 {Q Q' : Int32 → kx_S → Prop} (hQ : ∀ y0 y1, Q y0 y1 → Q' y0 y1) : ∀ (l1 : Nat) (l2 : Nat) (σ : kx_S), wX11_leaves_122 Q l1 l2 σ → vX11_leaves_122 Q' l1 l2 σ := by
  intro l1 l2 σ h
  unfold wX11_leaves_122 at h
  unfold vX11_leaves_122
  intro e1
  have h := h.2
  refine ⟨?_, ?_⟩
  · have h := h.1
    intro a3 e2
    have h := h a3 e2
    obtain ⟨a4', e3, h⟩ := h
    intro a4 e4
    have x9 : a4' = a4 := Option.some.inj (e3.symm.trans e4)
    rw [x9] at h
    intro e5
    have h := h.2
    refine jaX8_takes ?_ _ _ _ _ h
    intro r7 σ6 h
    intro e6
    have h := h.2
    exact hQ _ _ h
  · have h := h.2
    intro e7
    have h := h e7
    intro e8
    have h := h.2
    refine jaX6_goToSea ?_ _ _ h
    intro σ9 h
    exact hQ _ _ h
set_option maxRecDepth 100000 in
set_option maxHeartbeats 4000000 in
theorem jfX11_leaves_122 {I : kx_S → Prop} (W : fw_ I [16, 17, 18, 132, 133, 134, 1003, 1222]) {Q : Int32 → kx_S → Prop} (hQ : ∀ y0 y1, I y1 → Q y0 y1) : ∀ (l1 : Nat) (l2 : Nat) (σ : kx_S), I σ → vX11_leaves_122 Q l1 l2 σ := by
  intro l1 l2 σ i
  unfold vX11_leaves_122
  intro e1
  refine ⟨?_, ?_⟩
  · intro a3 e2
    intro a4 e3
    intro e4
    refine jfX8_takes (I := I) (fw_sub W (by decide)) ?_ _ _ _ _ i
    intro r7 σ6 iσ6
    intro e5
    exact hQ _ _ iσ6
  · intro e6
    intro e7
    refine jfX6_goToSea (I := I) (fw_sub W (by decide)) ?_ _ _ i
    intro σ9 iσ9
    exact hQ _ _ iσ9
def vX11_leaves_104 (Q : Int32 → kx_S → Prop) (l1 : Nat) (l2 : Nat) (σ : kx_S) : Prop := xt σ l2 = 10 → (((xi σ 165 l2) = 0 → vX11_leaves_122 Q l1 l2 σ) ∧ (¬ ((xi σ 165 l2) = 0) → ((50 ≤ (xi σ 170 l2) → vX11_leaves_122 Q l1 l2 σ) ∧ (¬ (50 ≤ (xi σ 170 l2)) → Q 0 σ))))
set_option maxRecDepth 100000 in
set_option maxHeartbeats 4000000 in
theorem jcX11_leaves_104 {Q Q' Q'' : Int32 → kx_S → Prop} (hQ : ∀ y0 y1, Q y0 y1 → Q' y0 y1 → Q'' y0 y1) : ∀ (l1 : Nat) (l2 : Nat) (σ : kx_S), wX11_leaves_104 Q l1 l2 σ → vX11_leaves_104 Q' l1 l2 σ → wX11_leaves_104 Q'' l1 l2 σ := by
  intro l1 l2 σ h v
  unfold wX11_leaves_104 at h
  unfold vX11_leaves_104 at v
  unfold wX11_leaves_104
  refine ⟨h.1, ?_⟩
  have v := v h.1
  have h := h.2
  refine ⟨?_, ?_⟩
  · have h := h.1
    have v := v.1
    intro e2
    have h := h e2
    have v := v e2
    exact jcX11_leaves_122 hQ _ _ _ h v
  · have h := h.2
    have v := v.2
    intro e3
    have h := h e3
    have v := v e3
    refine ⟨?_, ?_⟩
    · have h := h.1
      have v := v.1
      intro e4
      have h := h e4
      have v := v e4
      exact jcX11_leaves_122 hQ _ _ _ h v
    · have h := h.2
      have v := v.2
      intro e5
      have h := h e5
      have v := v e5
      exact hQ _ _ h v
set_option maxRecDepth 100000 in
set_option maxHeartbeats 4000000 in
theorem jaX11_leaves_104 {Q Q' : Int32 → kx_S → Prop} (hQ : ∀ y0 y1, Q y0 y1 → Q' y0 y1) : ∀ (l1 : Nat) (l2 : Nat) (σ : kx_S), wX11_leaves_104 Q l1 l2 σ → vX11_leaves_104 Q' l1 l2 σ := by
  intro l1 l2 σ h
  unfold wX11_leaves_104 at h
  unfold vX11_leaves_104
  intro e1
  have h := h.2
  refine ⟨?_, ?_⟩
  · have h := h.1
    intro e2
    have h := h e2
    exact jaX11_leaves_122 hQ _ _ _ h
  · have h := h.2
    intro e3
    have h := h e3
    refine ⟨?_, ?_⟩
    · have h := h.1
      intro e4
      have h := h e4
      exact jaX11_leaves_122 hQ _ _ _ h
    · have h := h.2
      intro e5
      have h := h e5
      exact hQ _ _ h
set_option maxRecDepth 100000 in
set_option maxHeartbeats 4000000 in
theorem jfX11_leaves_104 {I : kx_S → Prop} (W : fw_ I [16, 17, 18, 132, 133, 134, 1003, 1222]) {Q : Int32 → kx_S → Prop} (hQ : ∀ y0 y1, I y1 → Q y0 y1) : ∀ (l1 : Nat) (l2 : Nat) (σ : kx_S), I σ → vX11_leaves_104 Q l1 l2 σ := by
  intro l1 l2 σ i
  unfold vX11_leaves_104
  intro e1
  refine ⟨?_, ?_⟩
  · intro e2
    exact jfX11_leaves_122 (I := I) (fw_sub W (by decide)) hQ _ _ _ i
  · intro e3
    refine ⟨?_, ?_⟩
    · intro e4
      exact jfX11_leaves_122 (I := I) (fw_sub W (by decide)) hQ _ _ _ i
    · intro e5
      exact hQ _ _ i
def vX11_leaves (l0 : Nat) (l1 : Nat) (l2 : Nat) (σ : kx_S) (Q : Int32 → kx_S → Prop) : Prop := xt σ l2 = 10 → ((xr σ 172 l2 = none → vX11_leaves_104 Q l1 l2 σ) ∧ (∀ a16, xr σ 172 l2 = some a16 → ∀ a17, xr σ 172 l2 = some a17 → xt σ l1 = 8 → xt σ a17 = 2 → vX0_catches a17 (xi σ 129 l1) σ (fun r21 σ20 => ((r21 = 0 → vX11_leaves_104 Q l1 l2 σ20) ∧ (¬ (r21 = 0) → xt σ20 l2 = 10 → ∀ a25, xr σ20 172 l2 = some a25 → xt σ20 a25 = 2 → ∀ a28, xr σ20 32 a25 = some a28 → xt σ20 a28 = 1 → vJx4a65c_size_8abf5 a28 σ20 (fun r31 σ30 => xt σ30 l2 = 10 → ∀ a34, xr σ30 172 l2 = some a34 → xt σ30 a34 = 2 → ((r31 < (xi σ30 35 a34) → xt σ30 l0 = 13 → ∀ a39, xr σ30 215 l0 = some a39 → vX11_lawInForce l0 σ30 (fun q42 σ41 => xt σ41 l2 = 10 → xt σ41 l0 = 13 → xt σ41 a39 = 5 → vX3_weigh a39 q42 l1 (xi σ41 160 l2) (xi σ41 217 l0) σ41 (fun σ45 => xt σ45 l0 = 13 → ∀ a48, xr σ45 216 l0 = some a48 → xt σ45 l1 = 8 → xt σ45 a48 = 21 → vp_in (xi σ45 129 l1) (xn σ45 a48) → ∀ a53, xr σ45 215 l0 = some a53 → xt σ45 a53 = 5 → vp_in (xi σ45 129 l1) (xn σ45 a48) → ∀ σ57, σ57 = xsal σ45 a48 (xi σ45 129 l1).toNatClampNeg ((xal σ45 a48 (xi σ45 129 l1).toNatClampNeg) + (xl σ45 84 a53)) → vX6_lieInHeap l1 σ57 (fun σ62 => xt σ62 l2 = 10 → ∀ a64, xr σ62 172 l2 = some a64 → xt σ62 a64 = 2 → ∀ a67, xr σ62 32 a64 = some a67 → xt σ62 a67 = 1 → vJx4a65c_add_9ea2d a67 l1 σ62 (fun r70 σ69 => Q 1 σ69))))) ∧ (¬ (r31 < (xi σ30 35 a34)) → Q 0 σ30))))))))
set_option maxRecDepth 100000 in
set_option maxHeartbeats 4000000 in
theorem jcX11_leaves {Q Q' Q'' : Int32 → kx_S → Prop} (hQ : ∀ y0 y1, Q y0 y1 → Q' y0 y1 → Q'' y0 y1) : ∀ (l0 : Nat) (l1 : Nat) (l2 : Nat) (σ : kx_S), wX11_leaves l0 l1 l2 σ Q → vX11_leaves l0 l1 l2 σ Q' → wX11_leaves l0 l1 l2 σ Q'' := by
  intro l0 l1 l2 σ h v
  unfold wX11_leaves at h
  unfold vX11_leaves at v
  unfold wX11_leaves
  refine ⟨h.1, ?_⟩
  have v := v h.1
  have h := h.2
  refine ⟨?_, ?_⟩
  · have h := h.1
    have v := v.1
    intro e2
    have h := h e2
    have v := v e2
    exact jcX11_leaves_104 hQ _ _ _ h v
  · have h := h.2
    have v := v.2
    intro a16 e3
    have h := h a16 e3
    have v := v a16 e3
    obtain ⟨a17, e4, h⟩ := h
    refine ⟨a17, e4, ?_⟩
    have v := v a17 e4
    refine ⟨h.1, ?_⟩
    have v := v h.1
    have h := h.2
    refine ⟨h.1, ?_⟩
    have v := v h.1
    have h := h.2
    refine jcX0_catches ?_ _ _ _ h v
    intro r21 σ20 h v
    refine ⟨?_, ?_⟩
    · have h := h.1
      have v := v.1
      intro e7
      have h := h e7
      have v := v e7
      exact jcX11_leaves_104 hQ _ _ _ h v
    · have h := h.2
      have v := v.2
      intro e8
      have h := h e8
      have v := v e8
      refine ⟨h.1, ?_⟩
      have v := v h.1
      have h := h.2
      obtain ⟨a25, e10, h⟩ := h
      refine ⟨a25, e10, ?_⟩
      have v := v a25 e10
      refine ⟨h.1, ?_⟩
      have v := v h.1
      have h := h.2
      obtain ⟨a28, e12, h⟩ := h
      refine ⟨a28, e12, ?_⟩
      have v := v a28 e12
      refine ⟨h.1, ?_⟩
      have v := v h.1
      have h := h.2
      refine jcJx4a65c_size_8abf5 ?_ _ _ h v
      intro r31 σ30 h v
      refine ⟨h.1, ?_⟩
      have v := v h.1
      have h := h.2
      obtain ⟨a34, e15, h⟩ := h
      refine ⟨a34, e15, ?_⟩
      have v := v a34 e15
      refine ⟨h.1, ?_⟩
      have v := v h.1
      have h := h.2
      refine ⟨?_, ?_⟩
      · have h := h.1
        have v := v.1
        intro e17
        have h := h e17
        have v := v e17
        refine ⟨h.1, ?_⟩
        have v := v h.1
        have h := h.2
        obtain ⟨a39, e19, h⟩ := h
        refine ⟨a39, e19, ?_⟩
        have v := v a39 e19
        refine jcX11_lawInForce ?_ _ _ h v
        intro q42 σ41 h v
        refine ⟨h.1, ?_⟩
        have v := v h.1
        have h := h.2
        refine ⟨h.1, ?_⟩
        have v := v h.1
        have h := h.2
        refine ⟨h.1, ?_⟩
        have v := v h.1
        have h := h.2
        refine jcX3_weigh ?_ _ _ _ _ _ _ h v
        intro σ45 h v
        refine ⟨h.1, ?_⟩
        have v := v h.1
        have h := h.2
        obtain ⟨a48, e24, h⟩ := h
        refine ⟨a48, e24, ?_⟩
        have v := v a48 e24
        refine ⟨h.1, ?_⟩
        have v := v h.1
        have h := h.2
        refine ⟨h.1, ?_⟩
        have v := v h.1
        have h := h.2
        refine ⟨h.1, ?_⟩
        have v := v h.1
        have h := h.2
        obtain ⟨a53, e28, h⟩ := h
        refine ⟨a53, e28, ?_⟩
        have v := v a53 e28
        refine ⟨h.1, ?_⟩
        have v := v h.1
        have h := h.2
        refine ⟨h.1, ?_⟩
        have v := v h.1
        have h := h.2
        intro σ57 e31
        have h := h σ57 e31
        have v := v σ57 e31
        refine jcX6_lieInHeap ?_ _ _ h v
        intro σ62 h v
        refine ⟨h.1, ?_⟩
        have v := v h.1
        have h := h.2
        obtain ⟨a64, e33, h⟩ := h
        refine ⟨a64, e33, ?_⟩
        have v := v a64 e33
        refine ⟨h.1, ?_⟩
        have v := v h.1
        have h := h.2
        obtain ⟨a67, e35, h⟩ := h
        refine ⟨a67, e35, ?_⟩
        have v := v a67 e35
        refine ⟨h.1, ?_⟩
        have v := v h.1
        have h := h.2
        refine jcJx4a65c_add_9ea2d ?_ _ _ _ h v
        intro r70 σ69 h v
        exact hQ _ _ h v
      · have h := h.2
        have v := v.2
        intro e37
        have h := h e37
        have v := v e37
        exact hQ _ _ h v
set_option maxRecDepth 100000 in
set_option maxHeartbeats 4000000 in
theorem jaX11_leaves {Q Q' : Int32 → kx_S → Prop} (hQ : ∀ y0 y1, Q y0 y1 → Q' y0 y1) : ∀ (l0 : Nat) (l1 : Nat) (l2 : Nat) (σ : kx_S), wX11_leaves l0 l1 l2 σ Q → vX11_leaves l0 l1 l2 σ Q' := by
  intro l0 l1 l2 σ h
  unfold wX11_leaves at h
  unfold vX11_leaves
  intro e1
  have h := h.2
  refine ⟨?_, ?_⟩
  · have h := h.1
    intro e2
    have h := h e2
    exact jaX11_leaves_104 hQ _ _ _ h
  · have h := h.2
    intro a16 e3
    have h := h a16 e3
    obtain ⟨a17', e4, h⟩ := h
    intro a17 e5
    have x9 : a17' = a17 := Option.some.inj (e4.symm.trans e5)
    rw [x9] at h
    intro e6
    have h := h.2
    intro e7
    have h := h.2
    refine jaX0_catches ?_ _ _ _ h
    intro r21 σ20 h
    refine ⟨?_, ?_⟩
    · have h := h.1
      intro e8
      have h := h e8
      exact jaX11_leaves_104 hQ _ _ _ h
    · have h := h.2
      intro e9
      have h := h e9
      intro e10
      have h := h.2
      obtain ⟨a25', e11, h⟩ := h
      intro a25 e12
      have x9 : a25' = a25 := Option.some.inj (e11.symm.trans e12)
      rw [x9] at h
      intro e13
      have h := h.2
      obtain ⟨a28', e14, h⟩ := h
      intro a28 e15
      have x9 : a28' = a28 := Option.some.inj (e14.symm.trans e15)
      rw [x9] at h
      intro e16
      have h := h.2
      refine jaJx4a65c_size_8abf5 ?_ _ _ h
      intro r31 σ30 h
      intro e17
      have h := h.2
      obtain ⟨a34', e18, h⟩ := h
      intro a34 e19
      have x9 : a34' = a34 := Option.some.inj (e18.symm.trans e19)
      rw [x9] at h
      intro e20
      have h := h.2
      refine ⟨?_, ?_⟩
      · have h := h.1
        intro e21
        have h := h e21
        intro e22
        have h := h.2
        obtain ⟨a39', e23, h⟩ := h
        intro a39 e24
        have x9 : a39' = a39 := Option.some.inj (e23.symm.trans e24)
        rw [x9] at h
        refine jaX11_lawInForce ?_ _ _ h
        intro q42 σ41 h
        intro e25
        have h := h.2
        intro e26
        have h := h.2
        intro e27
        have h := h.2
        refine jaX3_weigh ?_ _ _ _ _ _ _ h
        intro σ45 h
        intro e28
        have h := h.2
        obtain ⟨a48', e29, h⟩ := h
        intro a48 e30
        have x9 : a48' = a48 := Option.some.inj (e29.symm.trans e30)
        rw [x9] at h
        intro e31
        have h := h.2
        intro e32
        have h := h.2
        intro e33
        have h := h.2
        obtain ⟨a53', e34, h⟩ := h
        intro a53 e35
        have x9 : a53' = a53 := Option.some.inj (e34.symm.trans e35)
        rw [x9] at h
        intro e36
        have h := h.2
        intro e37
        have h := h.2
        intro σ57 e38
        have h := h σ57 e38
        refine jaX6_lieInHeap ?_ _ _ h
        intro σ62 h
        intro e39
        have h := h.2
        obtain ⟨a64', e40, h⟩ := h
        intro a64 e41
        have x9 : a64' = a64 := Option.some.inj (e40.symm.trans e41)
        rw [x9] at h
        intro e42
        have h := h.2
        obtain ⟨a67', e43, h⟩ := h
        intro a67 e44
        have x9 : a67' = a67 := Option.some.inj (e43.symm.trans e44)
        rw [x9] at h
        intro e45
        have h := h.2
        refine jaJx4a65c_add_9ea2d ?_ _ _ _ h
        intro r70 σ69 h
        exact hQ _ _ h
      · have h := h.2
        intro e46
        have h := h e46
        exact hQ _ _ h
set_option maxRecDepth 100000 in
set_option maxHeartbeats 4000000 in
theorem jfX11_leaves {I : kx_S → Prop} (W : fw_ I [16, 17, 18, 82, 83, 84, 132, 133, 134, 1001, 1002, 1003, 1222]) {Q : Int32 → kx_S → Prop} (hQ : ∀ y0 y1, I y1 → Q y0 y1) : ∀ (l0 : Nat) (l1 : Nat) (l2 : Nat) (σ : kx_S), I σ → vX11_leaves l0 l1 l2 σ Q := by
  intro l0 l1 l2 σ i
  unfold vX11_leaves
  intro e1
  refine ⟨?_, ?_⟩
  · intro e2
    exact jfX11_leaves_104 (I := I) (fw_sub W (by decide)) hQ _ _ _ i
  · intro a16 e3
    intro a17 e4
    intro e5
    intro e6
    refine jfX0_catches (I := I) (fw_sub W (by decide)) ?_ _ _ _ i
    intro r21 σ20 iσ20
    refine ⟨?_, ?_⟩
    · intro e7
      exact jfX11_leaves_104 (I := I) (fw_sub W (by decide)) hQ _ _ _ iσ20
    · intro e8
      intro e9
      intro a25 e10
      intro e11
      intro a28 e12
      intro e13
      refine jfJx4a65c_size_8abf5 (I := I) (fw_sub W (by decide)) ?_ _ _ iσ20
      intro r31 σ30 iσ30
      intro e14
      intro a34 e15
      intro e16
      refine ⟨?_, ?_⟩
      · intro e17
        intro e18
        intro a39 e19
        refine jfX11_lawInForce (I := I) (fw_sub W (by decide)) ?_ _ _ iσ30
        intro q42 σ41 iσ41
        intro e20
        intro e21
        intro e22
        refine jfX3_weigh (I := I) (fw_sub W (by decide)) ?_ _ _ _ _ _ _ iσ41
        intro σ45 iσ45
        intro e23
        intro a48 e24
        intro e25
        intro e26
        intro e27
        intro a53 e28
        intro e29
        intro e30
        intro σ57 e31
        have iσ57 : I σ57 := by rw [e31]; exact (W _ iσ45).2.2.1 (by decide) _ _ _
        refine jfX6_lieInHeap (I := I) (fw_sub W (by decide)) ?_ _ _ iσ57
        intro σ62 iσ62
        intro e32
        intro a64 e33
        intro e34
        intro a67 e35
        intro e36
        refine jfJx4a65c_add_9ea2d (I := I) (fw_sub W (by decide)) ?_ _ _ _ iσ62
        intro r70 σ69 iσ69
        exact hQ _ _ iσ69
      · intro e37
        exact hQ _ _ iσ30
def vX11_movesOn_7 (k32 : Nat → Nat → Nat → Int32 → Int32 → Int32 → kx_S → Prop) (Q : Int32 → kx_S → Prop) : Nat → Nat → Nat → Nat → Int32 → Int32 → Int32 → kx_S → Prop
  | 0, _, _, _, _, _, _, _ => True
  | n + 1, l0, l1, l2, l3, l5, l6, σ => ((l6 ≤ 0 → k32 l0 l1 l2 l3 l5 l6 σ) ∧ (¬ (l6 ≤ 0) → xt σ l2 = 10 → vX8_canTake l2 (l5 + 1) σ (fun r3 σ2 => ((r3 = 0 → k32 l0 l1 l2 l3 l5 l6 σ2) ∧ (¬ (r3 = 0) → ∀ v6 : Int32, v6 = l5 + 1 → ∀ v7 : Int32, v7 = l6 + (-1) → vX11_movesOn_7 k32 Q n l0 l1 l2 l3 v6 v7 σ2)))))
set_option maxRecDepth 100000 in
set_option maxHeartbeats 4000000 in
theorem jcX11_movesOn_7 {k32 k32' k32'' : Nat → Nat → Nat → Int32 → Int32 → Int32 → kx_S → Prop} (hk32 : ∀ y0 y1 y2 y3 y4 y5 y6, k32 y0 y1 y2 y3 y4 y5 y6 → k32' y0 y1 y2 y3 y4 y5 y6 → k32'' y0 y1 y2 y3 y4 y5 y6) {Q Q' Q'' : Int32 → kx_S → Prop} (hQ : ∀ y0 y1, Q y0 y1 → Q' y0 y1 → Q'' y0 y1) : ∀ (n : Nat) (l0 : Nat) (l1 : Nat) (l2 : Nat) (l3 : Int32) (l5 : Int32) (l6 : Int32) (σ : kx_S), wX11_movesOn_7 k32 Q n l0 l1 l2 l3 l5 l6 σ → vX11_movesOn_7 k32' Q' n l0 l1 l2 l3 l5 l6 σ → wX11_movesOn_7 k32'' Q'' n l0 l1 l2 l3 l5 l6 σ := by
  intro n
  induction n with
  | zero => intro l0 l1 l2 l3 l5 l6 σ h; exact h.elim
  | succ n ih =>
    intro l0 l1 l2 l3 l5 l6 σ h v
    unfold wX11_movesOn_7 at h
    unfold vX11_movesOn_7 at v
    unfold wX11_movesOn_7
    refine ⟨?_, ?_⟩
    · have h := h.1
      have v := v.1
      intro e1
      have h := h e1
      have v := v e1
      exact hk32 _ _ _ _ _ _ _ h v
    · have h := h.2
      have v := v.2
      intro e2
      have h := h e2
      have v := v e2
      refine ⟨h.1, ?_⟩
      have v := v h.1
      have h := h.2
      refine jcX8_canTake ?_ _ _ _ h v
      intro r3 σ2 h v
      refine ⟨?_, ?_⟩
      · have h := h.1
        have v := v.1
        intro e4
        have h := h e4
        have v := v e4
        exact hk32 _ _ _ _ _ _ _ h v
      · have h := h.2
        have v := v.2
        intro e5
        have h := h e5
        have v := v e5
        intro v6 e6
        have h := h v6 e6
        have v := v v6 e6
        intro v7 e7
        have h := h v7 e7
        have v := v v7 e7
        exact ih _ _ _ _ _ _ _ h v
set_option maxRecDepth 100000 in
set_option maxHeartbeats 4000000 in
theorem jaX11_movesOn_7 {k32 k32' : Nat → Nat → Nat → Int32 → Int32 → Int32 → kx_S → Prop} (hk32 : ∀ y0 y1 y2 y3 y4 y5 y6, k32 y0 y1 y2 y3 y4 y5 y6 → k32' y0 y1 y2 y3 y4 y5 y6) {Q Q' : Int32 → kx_S → Prop} (hQ : ∀ y0 y1, Q y0 y1 → Q' y0 y1) : ∀ (n m : Nat) (l0 : Nat) (l1 : Nat) (l2 : Nat) (l3 : Int32) (l5 : Int32) (l6 : Int32) (σ : kx_S), wX11_movesOn_7 k32 Q n l0 l1 l2 l3 l5 l6 σ → vX11_movesOn_7 k32' Q' m l0 l1 l2 l3 l5 l6 σ := by
  intro n
  induction n with
  | zero => intro m l0 l1 l2 l3 l5 l6 σ h; exact h.elim
  | succ n ih =>
    intro m l0 l1 l2 l3 l5 l6 σ h
    cases m with
    | zero => exact trivial
    | succ m =>
      unfold wX11_movesOn_7 at h
      unfold vX11_movesOn_7
      refine ⟨?_, ?_⟩
      · have h := h.1
        intro e1
        have h := h e1
        exact hk32 _ _ _ _ _ _ _ h
      · have h := h.2
        intro e2
        have h := h e2
        intro e3
        have h := h.2
        refine jaX8_canTake ?_ _ _ _ h
        intro r3 σ2 h
        refine ⟨?_, ?_⟩
        · have h := h.1
          intro e4
          have h := h e4
          exact hk32 _ _ _ _ _ _ _ h
        · have h := h.2
          intro e5
          have h := h e5
          intro v6 e6
          have h := h v6 e6
          intro v7 e7
          have h := h v7 e7
          exact ih m _ _ _ _ _ _ _ h
set_option maxRecDepth 100000 in
set_option maxHeartbeats 4000000 in
theorem jfX11_movesOn_7 {I : kx_S → Prop} (W : fw_ I []) {k32 : Nat → Nat → Nat → Int32 → Int32 → Int32 → kx_S → Prop} (hk32 : ∀ y0 y1 y2 y3 y4 y5 y6, I y6 → k32 y0 y1 y2 y3 y4 y5 y6) {Q : Int32 → kx_S → Prop} (hQ : ∀ y0 y1, I y1 → Q y0 y1) : ∀ (n : Nat) (l0 : Nat) (l1 : Nat) (l2 : Nat) (l3 : Int32) (l5 : Int32) (l6 : Int32) (σ : kx_S), I σ → vX11_movesOn_7 k32 Q n l0 l1 l2 l3 l5 l6 σ := by
  intro n
  induction n with
  | zero => intro l0 l1 l2 l3 l5 l6 σ i; exact trivial
  | succ n ih =>
    intro l0 l1 l2 l3 l5 l6 σ i
    unfold vX11_movesOn_7
    refine ⟨?_, ?_⟩
    · intro e1
      exact hk32 _ _ _ _ _ _ _ i
    · intro e2
      intro e3
      refine jfX8_canTake (I := I) (fw_sub W (by decide)) ?_ _ _ _ i
      intro r3 σ2 iσ2
      refine ⟨?_, ?_⟩
      · intro e4
        exact hk32 _ _ _ _ _ _ _ iσ2
      · intro e5
        intro v6 e6
        intro v7 e7
        exact ih _ _ _ _ _ _ _ iσ2
def vX11_movesOn_64 (Q : Int32 → kx_S → Prop) (l1 : Nat) (l2 : Nat) (l3 : Int32) (l5 : Int32) (σ : kx_S) : Prop := ((l5 = l3 → Q 0 σ) ∧ (¬ (l5 = l3) → xt σ l2 = 10 → vX8_takes l2 l1 l5 σ (fun r10 σ9 => ((r10 = 0 → Q 0 σ9) ∧ (¬ (r10 = 0) → Q 1 σ9)))))
set_option maxRecDepth 100000 in
set_option maxHeartbeats 4000000 in
theorem jcX11_movesOn_64 {Q Q' Q'' : Int32 → kx_S → Prop} (hQ : ∀ y0 y1, Q y0 y1 → Q' y0 y1 → Q'' y0 y1) : ∀ (l1 : Nat) (l2 : Nat) (l3 : Int32) (l5 : Int32) (σ : kx_S), wX11_movesOn_64 Q l1 l2 l3 l5 σ → vX11_movesOn_64 Q' l1 l2 l3 l5 σ → wX11_movesOn_64 Q'' l1 l2 l3 l5 σ := by
  intro l1 l2 l3 l5 σ h v
  unfold wX11_movesOn_64 at h
  unfold vX11_movesOn_64 at v
  unfold wX11_movesOn_64
  refine ⟨?_, ?_⟩
  · have h := h.1
    have v := v.1
    intro e1
    have h := h e1
    have v := v e1
    exact hQ _ _ h v
  · have h := h.2
    have v := v.2
    intro e2
    have h := h e2
    have v := v e2
    refine ⟨h.1, ?_⟩
    have v := v h.1
    have h := h.2
    refine jcX8_takes ?_ _ _ _ _ h v
    intro r10 σ9 h v
    refine ⟨?_, ?_⟩
    · have h := h.1
      have v := v.1
      intro e4
      have h := h e4
      have v := v e4
      exact hQ _ _ h v
    · have h := h.2
      have v := v.2
      intro e5
      have h := h e5
      have v := v e5
      exact hQ _ _ h v
set_option maxRecDepth 100000 in
set_option maxHeartbeats 4000000 in
theorem jaX11_movesOn_64 {Q Q' : Int32 → kx_S → Prop} (hQ : ∀ y0 y1, Q y0 y1 → Q' y0 y1) : ∀ (l1 : Nat) (l2 : Nat) (l3 : Int32) (l5 : Int32) (σ : kx_S), wX11_movesOn_64 Q l1 l2 l3 l5 σ → vX11_movesOn_64 Q' l1 l2 l3 l5 σ := by
  intro l1 l2 l3 l5 σ h
  unfold wX11_movesOn_64 at h
  unfold vX11_movesOn_64
  refine ⟨?_, ?_⟩
  · have h := h.1
    intro e1
    have h := h e1
    exact hQ _ _ h
  · have h := h.2
    intro e2
    have h := h e2
    intro e3
    have h := h.2
    refine jaX8_takes ?_ _ _ _ _ h
    intro r10 σ9 h
    refine ⟨?_, ?_⟩
    · have h := h.1
      intro e4
      have h := h e4
      exact hQ _ _ h
    · have h := h.2
      intro e5
      have h := h e5
      exact hQ _ _ h
set_option maxRecDepth 100000 in
set_option maxHeartbeats 4000000 in
theorem jfX11_movesOn_64 {I : kx_S → Prop} (W : fw_ I [16, 17, 18, 132, 133, 134, 1003, 1222]) {Q : Int32 → kx_S → Prop} (hQ : ∀ y0 y1, I y1 → Q y0 y1) : ∀ (l1 : Nat) (l2 : Nat) (l3 : Int32) (l5 : Int32) (σ : kx_S), I σ → vX11_movesOn_64 Q l1 l2 l3 l5 σ := by
  intro l1 l2 l3 l5 σ i
  unfold vX11_movesOn_64
  refine ⟨?_, ?_⟩
  · intro e1
    exact hQ _ _ i
  · intro e2
    intro e3
    refine jfX8_takes (I := I) (fw_sub W (by decide)) ?_ _ _ _ _ i
    intro r10 σ9 iσ9
    refine ⟨?_, ?_⟩
    · intro e4
      exact hQ _ _ iσ9
    · intro e5
      exact hQ _ _ iσ9
def vX11_movesOn_32 (Q : Int32 → kx_S → Prop) (l0 : Nat) (l1 : Nat) (l2 : Nat) (l3 : Int32) (l5 : Int32) (l6 : Int32) (σ : kx_S) : Prop := ((l6 ≤ 0 → vX11_movesOn_64 Q l1 l2 l3 l5 σ) ∧ (¬ (l6 ≤ 0) → xt σ l2 = 10 → ∀ a15, xr σ 163 l2 = some a15 → xt σ a15 = 1 → vJx4a65c_size_8abf5 a15 σ (fun r18 σ17 => ((¬ l5 = (r18 - 1) → vX11_movesOn_64 Q l1 l2 l3 l5 σ17) ∧ (l5 = (r18 - 1) → xt σ17 l0 = 13 → vX11_leaves l0 l1 l2 σ17 (fun r22 σ21 => ((r22 = 0 → vX11_movesOn_64 Q l1 l2 l3 l5 σ21) ∧ (¬ (r22 = 0) → Q 1 σ21))))))))
set_option maxRecDepth 100000 in
set_option maxHeartbeats 4000000 in
theorem jcX11_movesOn_32 {Q Q' Q'' : Int32 → kx_S → Prop} (hQ : ∀ y0 y1, Q y0 y1 → Q' y0 y1 → Q'' y0 y1) : ∀ (l0 : Nat) (l1 : Nat) (l2 : Nat) (l3 : Int32) (l5 : Int32) (l6 : Int32) (σ : kx_S), wX11_movesOn_32 Q l0 l1 l2 l3 l5 l6 σ → vX11_movesOn_32 Q' l0 l1 l2 l3 l5 l6 σ → wX11_movesOn_32 Q'' l0 l1 l2 l3 l5 l6 σ := by
  intro l0 l1 l2 l3 l5 l6 σ h v
  unfold wX11_movesOn_32 at h
  unfold vX11_movesOn_32 at v
  unfold wX11_movesOn_32
  refine ⟨?_, ?_⟩
  · have h := h.1
    have v := v.1
    intro e1
    have h := h e1
    have v := v e1
    exact jcX11_movesOn_64 hQ _ _ _ _ _ h v
  · have h := h.2
    have v := v.2
    intro e2
    have h := h e2
    have v := v e2
    refine ⟨h.1, ?_⟩
    have v := v h.1
    have h := h.2
    obtain ⟨a15, e4, h⟩ := h
    refine ⟨a15, e4, ?_⟩
    have v := v a15 e4
    refine ⟨h.1, ?_⟩
    have v := v h.1
    have h := h.2
    refine jcJx4a65c_size_8abf5 ?_ _ _ h v
    intro r18 σ17 h v
    refine ⟨?_, ?_⟩
    · have h := h.1
      have v := v.1
      intro e6
      have h := h e6
      have v := v e6
      exact jcX11_movesOn_64 hQ _ _ _ _ _ h v
    · have h := h.2
      have v := v.2
      intro e7
      have h := h e7
      have v := v e7
      refine ⟨h.1, ?_⟩
      have v := v h.1
      have h := h.2
      refine jcX11_leaves ?_ _ _ _ _ h v
      intro r22 σ21 h v
      refine ⟨?_, ?_⟩
      · have h := h.1
        have v := v.1
        intro e9
        have h := h e9
        have v := v e9
        exact jcX11_movesOn_64 hQ _ _ _ _ _ h v
      · have h := h.2
        have v := v.2
        intro e10
        have h := h e10
        have v := v e10
        exact hQ _ _ h v
set_option maxRecDepth 100000 in
set_option maxHeartbeats 4000000 in
theorem jaX11_movesOn_32 {Q Q' : Int32 → kx_S → Prop} (hQ : ∀ y0 y1, Q y0 y1 → Q' y0 y1) : ∀ (l0 : Nat) (l1 : Nat) (l2 : Nat) (l3 : Int32) (l5 : Int32) (l6 : Int32) (σ : kx_S), wX11_movesOn_32 Q l0 l1 l2 l3 l5 l6 σ → vX11_movesOn_32 Q' l0 l1 l2 l3 l5 l6 σ := by
  intro l0 l1 l2 l3 l5 l6 σ h
  unfold wX11_movesOn_32 at h
  unfold vX11_movesOn_32
  refine ⟨?_, ?_⟩
  · have h := h.1
    intro e1
    have h := h e1
    exact jaX11_movesOn_64 hQ _ _ _ _ _ h
  · have h := h.2
    intro e2
    have h := h e2
    intro e3
    have h := h.2
    obtain ⟨a15', e4, h⟩ := h
    intro a15 e5
    have x9 : a15' = a15 := Option.some.inj (e4.symm.trans e5)
    rw [x9] at h
    intro e6
    have h := h.2
    refine jaJx4a65c_size_8abf5 ?_ _ _ h
    intro r18 σ17 h
    refine ⟨?_, ?_⟩
    · have h := h.1
      intro e7
      have h := h e7
      exact jaX11_movesOn_64 hQ _ _ _ _ _ h
    · have h := h.2
      intro e8
      have h := h e8
      intro e9
      have h := h.2
      refine jaX11_leaves ?_ _ _ _ _ h
      intro r22 σ21 h
      refine ⟨?_, ?_⟩
      · have h := h.1
        intro e10
        have h := h e10
        exact jaX11_movesOn_64 hQ _ _ _ _ _ h
      · have h := h.2
        intro e11
        have h := h e11
        exact hQ _ _ h
set_option maxRecDepth 100000 in
set_option maxHeartbeats 4000000 in
theorem jfX11_movesOn_32 {I : kx_S → Prop} (W : fw_ I [16, 17, 18, 82, 83, 84, 132, 133, 134, 1001, 1002, 1003, 1222]) {Q : Int32 → kx_S → Prop} (hQ : ∀ y0 y1, I y1 → Q y0 y1) : ∀ (l0 : Nat) (l1 : Nat) (l2 : Nat) (l3 : Int32) (l5 : Int32) (l6 : Int32) (σ : kx_S), I σ → vX11_movesOn_32 Q l0 l1 l2 l3 l5 l6 σ := by
  intro l0 l1 l2 l3 l5 l6 σ i
  unfold vX11_movesOn_32
  refine ⟨?_, ?_⟩
  · intro e1
    exact jfX11_movesOn_64 (I := I) (fw_sub W (by decide)) hQ _ _ _ _ _ i
  · intro e2
    intro e3
    intro a15 e4
    intro e5
    refine jfJx4a65c_size_8abf5 (I := I) (fw_sub W (by decide)) ?_ _ _ i
    intro r18 σ17 iσ17
    refine ⟨?_, ?_⟩
    · intro e6
      exact jfX11_movesOn_64 (I := I) (fw_sub W (by decide)) hQ _ _ _ _ _ iσ17
    · intro e7
      intro e8
      refine jfX11_leaves (I := I) (fw_sub W (by decide)) ?_ _ _ _ _ iσ17
      intro r22 σ21 iσ21
      refine ⟨?_, ?_⟩
      · intro e9
        exact jfX11_movesOn_64 (I := I) (fw_sub W (by decide)) hQ _ _ _ _ _ iσ21
      · intro e10
        exact hQ _ _ iσ21
def vX11_movesOn (l0 : Nat) (l1 : Nat) (l2 : Nat) (l3 : Int32) (l4 : Int32) (σ : kx_S) (Q : Int32 → kx_S → Prop) : Prop := ∀ j, vX11_movesOn_7 (vX11_movesOn_32 Q) Q j l0 l1 l2 l3 l3 l4 σ
set_option maxRecDepth 100000 in
set_option maxHeartbeats 4000000 in
theorem jcX11_movesOn {Q Q' Q'' : Int32 → kx_S → Prop} (hQ : ∀ y0 y1, Q y0 y1 → Q' y0 y1 → Q'' y0 y1) : ∀ (l0 : Nat) (l1 : Nat) (l2 : Nat) (l3 : Int32) (l4 : Int32) (σ : kx_S), wX11_movesOn l0 l1 l2 l3 l4 σ Q → vX11_movesOn l0 l1 l2 l3 l4 σ Q' → wX11_movesOn l0 l1 l2 l3 l4 σ Q'' := by
  intro l0 l1 l2 l3 l4 σ h v
  unfold wX11_movesOn at h
  unfold vX11_movesOn at v
  unfold wX11_movesOn
  obtain ⟨j, h⟩ := h
  refine ⟨j, ?_⟩
  have v := v j
  exact jcX11_movesOn_7 (k32 := wX11_movesOn_32 Q) (k32' := vX11_movesOn_32 Q') (k32'' := wX11_movesOn_32 Q'') (fun _ _ _ _ _ _ _ h v => jcX11_movesOn_32 hQ _ _ _ _ _ _ _ h v) hQ _ _ _ _ _ _ _ _ h v
set_option maxRecDepth 100000 in
set_option maxHeartbeats 4000000 in
theorem jaX11_movesOn {Q Q' : Int32 → kx_S → Prop} (hQ : ∀ y0 y1, Q y0 y1 → Q' y0 y1) : ∀ (l0 : Nat) (l1 : Nat) (l2 : Nat) (l3 : Int32) (l4 : Int32) (σ : kx_S), wX11_movesOn l0 l1 l2 l3 l4 σ Q → vX11_movesOn l0 l1 l2 l3 l4 σ Q' := by
  intro l0 l1 l2 l3 l4 σ h
  unfold wX11_movesOn at h
  unfold vX11_movesOn
  obtain ⟨j, h⟩ := h
  intro j9
  exact jaX11_movesOn_7 (k32 := wX11_movesOn_32 Q) (k32' := vX11_movesOn_32 Q') (fun _ _ _ _ _ _ _ h => jaX11_movesOn_32 hQ _ _ _ _ _ _ _ h) hQ _ j9 _ _ _ _ _ _ _ h
set_option maxRecDepth 100000 in
set_option maxHeartbeats 4000000 in
theorem jfX11_movesOn {I : kx_S → Prop} (W : fw_ I [16, 17, 18, 82, 83, 84, 132, 133, 134, 1001, 1002, 1003, 1222]) {Q : Int32 → kx_S → Prop} (hQ : ∀ y0 y1, I y1 → Q y0 y1) : ∀ (l0 : Nat) (l1 : Nat) (l2 : Nat) (l3 : Int32) (l4 : Int32) (σ : kx_S), I σ → vX11_movesOn l0 l1 l2 l3 l4 σ Q := by
  intro l0 l1 l2 l3 l4 σ i
  unfold vX11_movesOn
  intro j
  exact jfX11_movesOn_7 (I := I) (fw_sub W (by decide)) (k32 := vX11_movesOn_32 Q) (fun _ _ _ _ _ _ _ i => jfX11_movesOn_32 (I := I) (fw_sub W (by decide)) hQ _ _ _ _ _ _ _ i) hQ _ _ _ _ _ _ _ _ i
end
section
def vX11_moveLogsOfCell_103 (k39 : Nat → Nat → Int32 → Int32 → Nat → Int32 → Int32 → kx_S → Prop) (Q : kx_S → Prop) (l0 : Nat) (l1 : Nat) (l2 : Int32) (l3 : Int32) (l4 : Nat) (l5 : Int32) (l6 : Int32) (σ : kx_S) : Prop := ∀ v1 : Int32, v1 = l6 + (-1) → k39 l0 l1 l2 l3 l4 l5 v1 σ
set_option maxRecDepth 100000 in
set_option maxHeartbeats 4000000 in
theorem jcX11_moveLogsOfCell_103 {k39 k39' k39'' : Nat → Nat → Int32 → Int32 → Nat → Int32 → Int32 → kx_S → Prop} (hk39 : ∀ y0 y1 y2 y3 y4 y5 y6 y7, k39 y0 y1 y2 y3 y4 y5 y6 y7 → k39' y0 y1 y2 y3 y4 y5 y6 y7 → k39'' y0 y1 y2 y3 y4 y5 y6 y7) {Q Q' Q'' : kx_S → Prop} (hQ : ∀ y0, Q y0 → Q' y0 → Q'' y0) : ∀ (l0 : Nat) (l1 : Nat) (l2 : Int32) (l3 : Int32) (l4 : Nat) (l5 : Int32) (l6 : Int32) (σ : kx_S), wX11_moveLogsOfCell_103 k39 Q l0 l1 l2 l3 l4 l5 l6 σ → vX11_moveLogsOfCell_103 k39' Q' l0 l1 l2 l3 l4 l5 l6 σ → wX11_moveLogsOfCell_103 k39'' Q'' l0 l1 l2 l3 l4 l5 l6 σ := by
  intro l0 l1 l2 l3 l4 l5 l6 σ h v
  unfold wX11_moveLogsOfCell_103 at h
  unfold vX11_moveLogsOfCell_103 at v
  unfold wX11_moveLogsOfCell_103
  intro v1 e1
  have h := h v1 e1
  have v := v v1 e1
  exact hk39 _ _ _ _ _ _ _ _ h v
set_option maxRecDepth 100000 in
set_option maxHeartbeats 4000000 in
theorem jaX11_moveLogsOfCell_103 {k39 k39' : Nat → Nat → Int32 → Int32 → Nat → Int32 → Int32 → kx_S → Prop} (hk39 : ∀ y0 y1 y2 y3 y4 y5 y6 y7, k39 y0 y1 y2 y3 y4 y5 y6 y7 → k39' y0 y1 y2 y3 y4 y5 y6 y7) {Q Q' : kx_S → Prop} (hQ : ∀ y0, Q y0 → Q' y0) : ∀ (l0 : Nat) (l1 : Nat) (l2 : Int32) (l3 : Int32) (l4 : Nat) (l5 : Int32) (l6 : Int32) (σ : kx_S), wX11_moveLogsOfCell_103 k39 Q l0 l1 l2 l3 l4 l5 l6 σ → vX11_moveLogsOfCell_103 k39' Q' l0 l1 l2 l3 l4 l5 l6 σ := by
  intro l0 l1 l2 l3 l4 l5 l6 σ h
  unfold wX11_moveLogsOfCell_103 at h
  unfold vX11_moveLogsOfCell_103
  intro v1 e1
  have h := h v1 e1
  exact hk39 _ _ _ _ _ _ _ _ h
set_option maxRecDepth 100000 in
set_option maxHeartbeats 4000000 in
theorem jfX11_moveLogsOfCell_103 {I : kx_S → Prop} (W : fw_ I []) {k39 : Nat → Nat → Int32 → Int32 → Nat → Int32 → Int32 → kx_S → Prop} (hk39 : ∀ y0 y1 y2 y3 y4 y5 y6 y7, I y7 → k39 y0 y1 y2 y3 y4 y5 y6 y7) {Q : kx_S → Prop} (hQ : ∀ y0, I y0 → Q y0) : ∀ (l0 : Nat) (l1 : Nat) (l2 : Int32) (l3 : Int32) (l4 : Nat) (l5 : Int32) (l6 : Int32) (σ : kx_S), I σ → vX11_moveLogsOfCell_103 k39 Q l0 l1 l2 l3 l4 l5 l6 σ := by
  intro l0 l1 l2 l3 l4 l5 l6 σ i
  unfold vX11_moveLogsOfCell_103
  intro v1 e1
  exact hk39 _ _ _ _ _ _ _ _ i
def vX11_moveLogsOfCell_39 (Q : kx_S → Prop) : Nat → Nat → Nat → Int32 → Int32 → Nat → Int32 → Int32 → kx_S → Prop
  | 0, _, _, _, _, _, _, _, _ => True
  | n + 1, l0, l1, l2, l3, l4, l5, l6, σ => ((l6 ≤ 0 → Q σ) ∧ (¬ (l6 ≤ 0) → xt σ l4 = 3 → ∀ a4, xr σ 49 l4 = some a4 → xt σ a4 = 1 → vJx4a65c_size_8abf5 a4 σ (fun r7 σ6 => ((r7 ≤ l5 → Q σ6) ∧ (¬ (r7 ≤ l5) → xt σ6 l4 = 3 → ∀ a11, xr σ6 49 l4 = some a11 → xt σ6 a11 = 1 → vJx4a65c_get_915e3 a11 l5 σ6 (fun q14 σ13 => ∀ a16, q14 = some a16 → xt σ13 a16 = 8 → xt σ13 l0 = 13 → vX11_movesOn l0 a16 l1 l2 l3 σ13 (fun r20 σ19 => ((r20 = 0 → ∀ v23 : Int32, v23 = l5 + 1 → vX11_moveLogsOfCell_103 (vX11_moveLogsOfCell_39 Q n) Q l0 l1 l2 l3 l4 v23 l6 σ19) ∧ (¬ (r20 = 0) → xt σ19 l4 = 3 → ∀ a25, xr σ19 49 l4 = some a25 → xt σ19 a25 = 1 → vJx4a65c_remove_915e3 a25 l5 σ19 (fun q28 σ27 => vX11_moveLogsOfCell_103 (vX11_moveLogsOfCell_39 Q n) Q l0 l1 l2 l3 l4 l5 l6 σ27))))))))))
set_option maxRecDepth 100000 in
set_option maxHeartbeats 4000000 in
theorem jcX11_moveLogsOfCell_39 {Q Q' Q'' : kx_S → Prop} (hQ : ∀ y0, Q y0 → Q' y0 → Q'' y0) : ∀ (n : Nat) (l0 : Nat) (l1 : Nat) (l2 : Int32) (l3 : Int32) (l4 : Nat) (l5 : Int32) (l6 : Int32) (σ : kx_S), wX11_moveLogsOfCell_39 Q n l0 l1 l2 l3 l4 l5 l6 σ → vX11_moveLogsOfCell_39 Q' n l0 l1 l2 l3 l4 l5 l6 σ → wX11_moveLogsOfCell_39 Q'' n l0 l1 l2 l3 l4 l5 l6 σ := by
  intro n
  induction n with
  | zero => intro l0 l1 l2 l3 l4 l5 l6 σ h; exact h.elim
  | succ n ih =>
    intro l0 l1 l2 l3 l4 l5 l6 σ h v
    unfold wX11_moveLogsOfCell_39 at h
    unfold vX11_moveLogsOfCell_39 at v
    unfold wX11_moveLogsOfCell_39
    refine ⟨?_, ?_⟩
    · have h := h.1
      have v := v.1
      intro e1
      have h := h e1
      have v := v e1
      exact hQ _ h v
    · have h := h.2
      have v := v.2
      intro e2
      have h := h e2
      have v := v e2
      refine ⟨h.1, ?_⟩
      have v := v h.1
      have h := h.2
      obtain ⟨a4, e4, h⟩ := h
      refine ⟨a4, e4, ?_⟩
      have v := v a4 e4
      refine ⟨h.1, ?_⟩
      have v := v h.1
      have h := h.2
      refine jcJx4a65c_size_8abf5 ?_ _ _ h v
      intro r7 σ6 h v
      refine ⟨?_, ?_⟩
      · have h := h.1
        have v := v.1
        intro e6
        have h := h e6
        have v := v e6
        exact hQ _ h v
      · have h := h.2
        have v := v.2
        intro e7
        have h := h e7
        have v := v e7
        refine ⟨h.1, ?_⟩
        have v := v h.1
        have h := h.2
        obtain ⟨a11, e9, h⟩ := h
        refine ⟨a11, e9, ?_⟩
        have v := v a11 e9
        refine ⟨h.1, ?_⟩
        have v := v h.1
        have h := h.2
        refine jcJx4a65c_get_915e3 ?_ _ _ _ h v
        intro q14 σ13 h v
        obtain ⟨a16, e11, h⟩ := h
        refine ⟨a16, e11, ?_⟩
        have v := v a16 e11
        refine ⟨h.1, ?_⟩
        have v := v h.1
        have h := h.2
        refine ⟨h.1, ?_⟩
        have v := v h.1
        have h := h.2
        refine jcX11_movesOn ?_ _ _ _ _ _ _ h v
        intro r20 σ19 h v
        refine ⟨?_, ?_⟩
        · have h := h.1
          have v := v.1
          intro e14
          have h := h e14
          have v := v e14
          intro v23 e15
          have h := h v23 e15
          have v := v v23 e15
          exact jcX11_moveLogsOfCell_103 (k39 := wX11_moveLogsOfCell_39 Q n) (k39' := vX11_moveLogsOfCell_39 Q' n) (k39'' := wX11_moveLogsOfCell_39 Q'' n) (fun _ _ _ _ _ _ _ _ h v => ih _ _ _ _ _ _ _ _ h v) hQ _ _ _ _ _ _ _ _ h v
        · have h := h.2
          have v := v.2
          intro e16
          have h := h e16
          have v := v e16
          refine ⟨h.1, ?_⟩
          have v := v h.1
          have h := h.2
          obtain ⟨a25, e18, h⟩ := h
          refine ⟨a25, e18, ?_⟩
          have v := v a25 e18
          refine ⟨h.1, ?_⟩
          have v := v h.1
          have h := h.2
          refine jcJx4a65c_remove_915e3 ?_ _ _ _ h v
          intro q28 σ27 h v
          exact jcX11_moveLogsOfCell_103 (k39 := wX11_moveLogsOfCell_39 Q n) (k39' := vX11_moveLogsOfCell_39 Q' n) (k39'' := wX11_moveLogsOfCell_39 Q'' n) (fun _ _ _ _ _ _ _ _ h v => ih _ _ _ _ _ _ _ _ h v) hQ _ _ _ _ _ _ _ _ h v
set_option maxRecDepth 100000 in
set_option maxHeartbeats 4000000 in
theorem jaX11_moveLogsOfCell_39 {Q Q' : kx_S → Prop} (hQ : ∀ y0, Q y0 → Q' y0) : ∀ (n m : Nat) (l0 : Nat) (l1 : Nat) (l2 : Int32) (l3 : Int32) (l4 : Nat) (l5 : Int32) (l6 : Int32) (σ : kx_S), wX11_moveLogsOfCell_39 Q n l0 l1 l2 l3 l4 l5 l6 σ → vX11_moveLogsOfCell_39 Q' m l0 l1 l2 l3 l4 l5 l6 σ := by
  intro n
  induction n with
  | zero => intro m l0 l1 l2 l3 l4 l5 l6 σ h; exact h.elim
  | succ n ih =>
    intro m l0 l1 l2 l3 l4 l5 l6 σ h
    cases m with
    | zero => exact trivial
    | succ m =>
      unfold wX11_moveLogsOfCell_39 at h
      unfold vX11_moveLogsOfCell_39
      refine ⟨?_, ?_⟩
      · have h := h.1
        intro e1
        have h := h e1
        exact hQ _ h
      · have h := h.2
        intro e2
        have h := h e2
        intro e3
        have h := h.2
        obtain ⟨a4', e4, h⟩ := h
        intro a4 e5
        have x9 : a4' = a4 := Option.some.inj (e4.symm.trans e5)
        rw [x9] at h
        intro e6
        have h := h.2
        refine jaJx4a65c_size_8abf5 ?_ _ _ h
        intro r7 σ6 h
        refine ⟨?_, ?_⟩
        · have h := h.1
          intro e7
          have h := h e7
          exact hQ _ h
        · have h := h.2
          intro e8
          have h := h e8
          intro e9
          have h := h.2
          obtain ⟨a11', e10, h⟩ := h
          intro a11 e11
          have x9 : a11' = a11 := Option.some.inj (e10.symm.trans e11)
          rw [x9] at h
          intro e12
          have h := h.2
          refine jaJx4a65c_get_915e3 ?_ _ _ _ h
          intro q14 σ13 h
          obtain ⟨a16', e13, h⟩ := h
          intro a16 e14
          have x9 : a16' = a16 := Option.some.inj (e13.symm.trans e14)
          rw [x9] at h
          intro e15
          have h := h.2
          intro e16
          have h := h.2
          refine jaX11_movesOn ?_ _ _ _ _ _ _ h
          intro r20 σ19 h
          refine ⟨?_, ?_⟩
          · have h := h.1
            intro e17
            have h := h e17
            intro v23 e18
            have h := h v23 e18
            exact jaX11_moveLogsOfCell_103 (k39 := wX11_moveLogsOfCell_39 Q n) (k39' := vX11_moveLogsOfCell_39 Q' m) (fun _ _ _ _ _ _ _ _ h => ih m _ _ _ _ _ _ _ _ h) hQ _ _ _ _ _ _ _ _ h
          · have h := h.2
            intro e19
            have h := h e19
            intro e20
            have h := h.2
            obtain ⟨a25', e21, h⟩ := h
            intro a25 e22
            have x9 : a25' = a25 := Option.some.inj (e21.symm.trans e22)
            rw [x9] at h
            intro e23
            have h := h.2
            refine jaJx4a65c_remove_915e3 ?_ _ _ _ h
            intro q28 σ27 h
            exact jaX11_moveLogsOfCell_103 (k39 := wX11_moveLogsOfCell_39 Q n) (k39' := vX11_moveLogsOfCell_39 Q' m) (fun _ _ _ _ _ _ _ _ h => ih m _ _ _ _ _ _ _ _ h) hQ _ _ _ _ _ _ _ _ h
set_option maxRecDepth 100000 in
set_option maxHeartbeats 4000000 in
theorem jfX11_moveLogsOfCell_39 {I : kx_S → Prop} (W : fw_ I [16, 17, 18, 82, 83, 84, 132, 133, 134, 1001, 1002, 1003, 1222]) {Q : kx_S → Prop} (hQ : ∀ y0, I y0 → Q y0) : ∀ (n : Nat) (l0 : Nat) (l1 : Nat) (l2 : Int32) (l3 : Int32) (l4 : Nat) (l5 : Int32) (l6 : Int32) (σ : kx_S), I σ → vX11_moveLogsOfCell_39 Q n l0 l1 l2 l3 l4 l5 l6 σ := by
  intro n
  induction n with
  | zero => intro l0 l1 l2 l3 l4 l5 l6 σ i; exact trivial
  | succ n ih =>
    intro l0 l1 l2 l3 l4 l5 l6 σ i
    unfold vX11_moveLogsOfCell_39
    refine ⟨?_, ?_⟩
    · intro e1
      exact hQ _ i
    · intro e2
      intro e3
      intro a4 e4
      intro e5
      refine jfJx4a65c_size_8abf5 (I := I) (fw_sub W (by decide)) ?_ _ _ i
      intro r7 σ6 iσ6
      refine ⟨?_, ?_⟩
      · intro e6
        exact hQ _ iσ6
      · intro e7
        intro e8
        intro a11 e9
        intro e10
        refine jfJx4a65c_get_915e3 (I := I) (fw_sub W (by decide)) ?_ _ _ _ iσ6
        intro q14 σ13 iσ13
        intro a16 e11
        intro e12
        intro e13
        refine jfX11_movesOn (I := I) (fw_sub W (by decide)) ?_ _ _ _ _ _ _ iσ13
        intro r20 σ19 iσ19
        refine ⟨?_, ?_⟩
        · intro e14
          intro v23 e15
          exact jfX11_moveLogsOfCell_103 (I := I) (fw_sub W (by decide)) (k39 := vX11_moveLogsOfCell_39 Q n) (fun _ _ _ _ _ _ _ _ i => ih _ _ _ _ _ _ _ _ i) hQ _ _ _ _ _ _ _ _ iσ19
        · intro e16
          intro e17
          intro a25 e18
          intro e19
          refine jfJx4a65c_remove_915e3 (I := I) (fw_sub W (by decide)) ?_ _ _ _ iσ19
          intro q28 σ27 iσ27
          exact jfX11_moveLogsOfCell_103 (I := I) (fw_sub W (by decide)) (k39 := vX11_moveLogsOfCell_39 Q n) (fun _ _ _ _ _ _ _ _ i => ih _ _ _ _ _ _ _ _ i) hQ _ _ _ _ _ _ _ _ iσ27
def vX11_moveLogsOfCell (l0 : Nat) (l1 : Nat) (l2 : Int32) (l3 : Int32) (σ : kx_S) (Q : kx_S → Prop) : Prop := xt σ l1 = 10 → ∀ a31, xr σ 163 l1 = some a31 → xt σ a31 = 1 → vJx4a65c_get_915e3 a31 l2 σ (fun q34 σ33 => ∀ a36, q34 = some a36 → xt σ33 a36 = 3 → (((xi σ33 50 a36) = 0 → ∀ a40, xr σ33 49 a36 = some a40 → xt σ33 a40 = 1 → vJx4a65c_size_8abf5 a40 σ33 (fun r43 σ42 => ∀ j, vX11_moveLogsOfCell_39 Q j l0 l1 l2 l3 a36 0 r43 σ42)) ∧ (¬ ((xi σ33 50 a36) = 0) → Q σ33)))
set_option maxRecDepth 100000 in
set_option maxHeartbeats 4000000 in
theorem jcX11_moveLogsOfCell {Q Q' Q'' : kx_S → Prop} (hQ : ∀ y0, Q y0 → Q' y0 → Q'' y0) : ∀ (l0 : Nat) (l1 : Nat) (l2 : Int32) (l3 : Int32) (σ : kx_S), wX11_moveLogsOfCell l0 l1 l2 l3 σ Q → vX11_moveLogsOfCell l0 l1 l2 l3 σ Q' → wX11_moveLogsOfCell l0 l1 l2 l3 σ Q'' := by
  intro l0 l1 l2 l3 σ h v
  unfold wX11_moveLogsOfCell at h
  unfold vX11_moveLogsOfCell at v
  unfold wX11_moveLogsOfCell
  refine ⟨h.1, ?_⟩
  have v := v h.1
  have h := h.2
  obtain ⟨a31, e2, h⟩ := h
  refine ⟨a31, e2, ?_⟩
  have v := v a31 e2
  refine ⟨h.1, ?_⟩
  have v := v h.1
  have h := h.2
  refine jcJx4a65c_get_915e3 ?_ _ _ _ h v
  intro q34 σ33 h v
  obtain ⟨a36, e4, h⟩ := h
  refine ⟨a36, e4, ?_⟩
  have v := v a36 e4
  refine ⟨h.1, ?_⟩
  have v := v h.1
  have h := h.2
  refine ⟨?_, ?_⟩
  · have h := h.1
    have v := v.1
    intro e6
    have h := h e6
    have v := v e6
    obtain ⟨a40, e7, h⟩ := h
    refine ⟨a40, e7, ?_⟩
    have v := v a40 e7
    refine ⟨h.1, ?_⟩
    have v := v h.1
    have h := h.2
    refine jcJx4a65c_size_8abf5 ?_ _ _ h v
    intro r43 σ42 h v
    obtain ⟨j, h⟩ := h
    refine ⟨j, ?_⟩
    have v := v j
    exact jcX11_moveLogsOfCell_39 hQ _ _ _ _ _ _ _ _ _ h v
  · have h := h.2
    have v := v.2
    intro e9
    have h := h e9
    have v := v e9
    exact hQ _ h v
set_option maxRecDepth 100000 in
set_option maxHeartbeats 4000000 in
theorem jaX11_moveLogsOfCell {Q Q' : kx_S → Prop} (hQ : ∀ y0, Q y0 → Q' y0) : ∀ (l0 : Nat) (l1 : Nat) (l2 : Int32) (l3 : Int32) (σ : kx_S), wX11_moveLogsOfCell l0 l1 l2 l3 σ Q → vX11_moveLogsOfCell l0 l1 l2 l3 σ Q' := by
  intro l0 l1 l2 l3 σ h
  unfold wX11_moveLogsOfCell at h
  unfold vX11_moveLogsOfCell
  intro e1
  have h := h.2
  obtain ⟨a31', e2, h⟩ := h
  intro a31 e3
  have x9 : a31' = a31 := Option.some.inj (e2.symm.trans e3)
  rw [x9] at h
  intro e4
  have h := h.2
  refine jaJx4a65c_get_915e3 ?_ _ _ _ h
  intro q34 σ33 h
  obtain ⟨a36', e5, h⟩ := h
  intro a36 e6
  have x9 : a36' = a36 := Option.some.inj (e5.symm.trans e6)
  rw [x9] at h
  intro e7
  have h := h.2
  refine ⟨?_, ?_⟩
  · have h := h.1
    intro e8
    have h := h e8
    obtain ⟨a40', e9, h⟩ := h
    intro a40 e10
    have x9 : a40' = a40 := Option.some.inj (e9.symm.trans e10)
    rw [x9] at h
    intro e11
    have h := h.2
    refine jaJx4a65c_size_8abf5 ?_ _ _ h
    intro r43 σ42 h
    obtain ⟨j, h⟩ := h
    intro j9
    exact jaX11_moveLogsOfCell_39 hQ _ j9 _ _ _ _ _ _ _ _ h
  · have h := h.2
    intro e12
    have h := h e12
    exact hQ _ h
set_option maxRecDepth 100000 in
set_option maxHeartbeats 4000000 in
theorem jfX11_moveLogsOfCell {I : kx_S → Prop} (W : fw_ I [16, 17, 18, 82, 83, 84, 132, 133, 134, 1001, 1002, 1003, 1222]) {Q : kx_S → Prop} (hQ : ∀ y0, I y0 → Q y0) : ∀ (l0 : Nat) (l1 : Nat) (l2 : Int32) (l3 : Int32) (σ : kx_S), I σ → vX11_moveLogsOfCell l0 l1 l2 l3 σ Q := by
  intro l0 l1 l2 l3 σ i
  unfold vX11_moveLogsOfCell
  intro e1
  intro a31 e2
  intro e3
  refine jfJx4a65c_get_915e3 (I := I) (fw_sub W (by decide)) ?_ _ _ _ i
  intro q34 σ33 iσ33
  intro a36 e4
  intro e5
  refine ⟨?_, ?_⟩
  · intro e6
    intro a40 e7
    intro e8
    refine jfJx4a65c_size_8abf5 (I := I) (fw_sub W (by decide)) ?_ _ _ iσ33
    intro r43 σ42 iσ42
    intro j
    exact jfX11_moveLogsOfCell_39 (I := I) (fw_sub W (by decide)) hQ _ _ _ _ _ _ _ _ _ iσ42
  · intro e9
    exact hQ _ iσ33
def vX11_moveLogs_78 (k2 : Nat → Int32 → kx_S → Prop) (Q : kx_S → Prop) (l0 : Nat) (l1 : Int32) (σ : kx_S) : Prop := ∀ v1 : Int32, v1 = l1 + 1 → k2 l0 v1 σ
set_option maxRecDepth 100000 in
set_option maxHeartbeats 4000000 in
theorem jcX11_moveLogs_78 {k2 k2' k2'' : Nat → Int32 → kx_S → Prop} (hk2 : ∀ y0 y1 y2, k2 y0 y1 y2 → k2' y0 y1 y2 → k2'' y0 y1 y2) {Q Q' Q'' : kx_S → Prop} (hQ : ∀ y0, Q y0 → Q' y0 → Q'' y0) : ∀ (l0 : Nat) (l1 : Int32) (σ : kx_S), wX11_moveLogs_78 k2 Q l0 l1 σ → vX11_moveLogs_78 k2' Q' l0 l1 σ → wX11_moveLogs_78 k2'' Q'' l0 l1 σ := by
  intro l0 l1 σ h v
  unfold wX11_moveLogs_78 at h
  unfold vX11_moveLogs_78 at v
  unfold wX11_moveLogs_78
  intro v1 e1
  have h := h v1 e1
  have v := v v1 e1
  exact hk2 _ _ _ h v
set_option maxRecDepth 100000 in
set_option maxHeartbeats 4000000 in
theorem jaX11_moveLogs_78 {k2 k2' : Nat → Int32 → kx_S → Prop} (hk2 : ∀ y0 y1 y2, k2 y0 y1 y2 → k2' y0 y1 y2) {Q Q' : kx_S → Prop} (hQ : ∀ y0, Q y0 → Q' y0) : ∀ (l0 : Nat) (l1 : Int32) (σ : kx_S), wX11_moveLogs_78 k2 Q l0 l1 σ → vX11_moveLogs_78 k2' Q' l0 l1 σ := by
  intro l0 l1 σ h
  unfold wX11_moveLogs_78 at h
  unfold vX11_moveLogs_78
  intro v1 e1
  have h := h v1 e1
  exact hk2 _ _ _ h
set_option maxRecDepth 100000 in
set_option maxHeartbeats 4000000 in
theorem jfX11_moveLogs_78 {I : kx_S → Prop} (W : fw_ I []) {k2 : Nat → Int32 → kx_S → Prop} (hk2 : ∀ y0 y1 y2, I y2 → k2 y0 y1 y2) {Q : kx_S → Prop} (hQ : ∀ y0, I y0 → Q y0) : ∀ (l0 : Nat) (l1 : Int32) (σ : kx_S), I σ → vX11_moveLogs_78 k2 Q l0 l1 σ := by
  intro l0 l1 σ i
  unfold vX11_moveLogs_78
  intro v1 e1
  exact hk2 _ _ _ i
def vX11_moveLogs_55 (k78 : Nat → Int32 → kx_S → Prop) (Q : kx_S → Prop) : Nat → Nat → Int32 → Nat → Int32 → Int32 → kx_S → Prop
  | 0, _, _, _, _, _, _ => True
  | n + 1, l0, l1, l2, l3, l4, σ => ((l4 < 0 → k78 l0 l1 σ) ∧ (¬ (l4 < 0) → ((l3 ≤ 0 → k78 l0 l1 σ) ∧ (¬ (l3 ≤ 0) → xt σ l0 = 13 → vX11_moveLogsOfCell l0 l2 l4 l3 σ (fun σ4 => ∀ v6 : Int32, v6 = l4 + (-1) → vX11_moveLogs_55 k78 Q n l0 l1 l2 l3 v6 σ4)))))
set_option maxRecDepth 100000 in
set_option maxHeartbeats 4000000 in
theorem jcX11_moveLogs_55 {k78 k78' k78'' : Nat → Int32 → kx_S → Prop} (hk78 : ∀ y0 y1 y2, k78 y0 y1 y2 → k78' y0 y1 y2 → k78'' y0 y1 y2) {Q Q' Q'' : kx_S → Prop} (hQ : ∀ y0, Q y0 → Q' y0 → Q'' y0) : ∀ (n : Nat) (l0 : Nat) (l1 : Int32) (l2 : Nat) (l3 : Int32) (l4 : Int32) (σ : kx_S), wX11_moveLogs_55 k78 Q n l0 l1 l2 l3 l4 σ → vX11_moveLogs_55 k78' Q' n l0 l1 l2 l3 l4 σ → wX11_moveLogs_55 k78'' Q'' n l0 l1 l2 l3 l4 σ := by
  intro n
  induction n with
  | zero => intro l0 l1 l2 l3 l4 σ h; exact h.elim
  | succ n ih =>
    intro l0 l1 l2 l3 l4 σ h v
    unfold wX11_moveLogs_55 at h
    unfold vX11_moveLogs_55 at v
    unfold wX11_moveLogs_55
    refine ⟨?_, ?_⟩
    · have h := h.1
      have v := v.1
      intro e1
      have h := h e1
      have v := v e1
      exact hk78 _ _ _ h v
    · have h := h.2
      have v := v.2
      intro e2
      have h := h e2
      have v := v e2
      refine ⟨?_, ?_⟩
      · have h := h.1
        have v := v.1
        intro e3
        have h := h e3
        have v := v e3
        exact hk78 _ _ _ h v
      · have h := h.2
        have v := v.2
        intro e4
        have h := h e4
        have v := v e4
        refine ⟨h.1, ?_⟩
        have v := v h.1
        have h := h.2
        refine jcX11_moveLogsOfCell ?_ _ _ _ _ _ h v
        intro σ4 h v
        intro v6 e6
        have h := h v6 e6
        have v := v v6 e6
        exact ih _ _ _ _ _ _ h v
set_option maxRecDepth 100000 in
set_option maxHeartbeats 4000000 in
theorem jaX11_moveLogs_55 {k78 k78' : Nat → Int32 → kx_S → Prop} (hk78 : ∀ y0 y1 y2, k78 y0 y1 y2 → k78' y0 y1 y2) {Q Q' : kx_S → Prop} (hQ : ∀ y0, Q y0 → Q' y0) : ∀ (n m : Nat) (l0 : Nat) (l1 : Int32) (l2 : Nat) (l3 : Int32) (l4 : Int32) (σ : kx_S), wX11_moveLogs_55 k78 Q n l0 l1 l2 l3 l4 σ → vX11_moveLogs_55 k78' Q' m l0 l1 l2 l3 l4 σ := by
  intro n
  induction n with
  | zero => intro m l0 l1 l2 l3 l4 σ h; exact h.elim
  | succ n ih =>
    intro m l0 l1 l2 l3 l4 σ h
    cases m with
    | zero => exact trivial
    | succ m =>
      unfold wX11_moveLogs_55 at h
      unfold vX11_moveLogs_55
      refine ⟨?_, ?_⟩
      · have h := h.1
        intro e1
        have h := h e1
        exact hk78 _ _ _ h
      · have h := h.2
        intro e2
        have h := h e2
        refine ⟨?_, ?_⟩
        · have h := h.1
          intro e3
          have h := h e3
          exact hk78 _ _ _ h
        · have h := h.2
          intro e4
          have h := h e4
          intro e5
          have h := h.2
          refine jaX11_moveLogsOfCell ?_ _ _ _ _ _ h
          intro σ4 h
          intro v6 e6
          have h := h v6 e6
          exact ih m _ _ _ _ _ _ h
set_option maxRecDepth 100000 in
set_option maxHeartbeats 4000000 in
theorem jfX11_moveLogs_55 {I : kx_S → Prop} (W : fw_ I [16, 17, 18, 82, 83, 84, 132, 133, 134, 1001, 1002, 1003, 1222]) {k78 : Nat → Int32 → kx_S → Prop} (hk78 : ∀ y0 y1 y2, I y2 → k78 y0 y1 y2) {Q : kx_S → Prop} (hQ : ∀ y0, I y0 → Q y0) : ∀ (n : Nat) (l0 : Nat) (l1 : Int32) (l2 : Nat) (l3 : Int32) (l4 : Int32) (σ : kx_S), I σ → vX11_moveLogs_55 k78 Q n l0 l1 l2 l3 l4 σ := by
  intro n
  induction n with
  | zero => intro l0 l1 l2 l3 l4 σ i; exact trivial
  | succ n ih =>
    intro l0 l1 l2 l3 l4 σ i
    unfold vX11_moveLogs_55
    refine ⟨?_, ?_⟩
    · intro e1
      exact hk78 _ _ _ i
    · intro e2
      refine ⟨?_, ?_⟩
      · intro e3
        exact hk78 _ _ _ i
      · intro e4
        intro e5
        refine jfX11_moveLogsOfCell (I := I) (fw_sub W (by decide)) ?_ _ _ _ _ _ i
        intro σ4 iσ4
        intro v6 e6
        exact ih _ _ _ _ _ _ iσ4
def vX11_moveLogs_2 (Q : kx_S → Prop) : Nat → Nat → Int32 → kx_S → Prop
  | 0, _, _, _ => True
  | n + 1, l0, l1, σ => xt σ l0 = 13 → ∀ a8, xr σ 208 l0 = some a8 → xt σ a8 = 1 → vJx4a65c_size_8abf5 a8 σ (fun r11 σ10 => ((r11 ≤ l1 → Q σ10) ∧ (¬ (r11 ≤ l1) → xt σ10 l0 = 13 → ∀ a15, xr σ10 208 l0 = some a15 → xt σ10 a15 = 1 → vJx4a65c_get_915e3 a15 l1 σ10 (fun q18 σ17 => ∀ a20, q18 = some a20 → xt σ17 a20 = 10 → ∀ v23, v23 = (if 6 < ((xi σ17 169 a20) / 100) then 6 else ((xi σ17 169 a20) / 100)) → ∀ a24, xr σ17 163 a20 = some a24 → xt σ17 a24 = 1 → vJx4a65c_size_8abf5 a24 σ17 (fun r27 σ26 => ∀ v29, v29 = r27 - 1 → ∀ j, vX11_moveLogs_55 (vX11_moveLogs_78 (vX11_moveLogs_2 Q n) Q) Q j l0 l1 a20 v23 v29 σ26)))))
set_option maxRecDepth 100000 in
set_option maxHeartbeats 4000000 in
theorem jcX11_moveLogs_2 {Q Q' Q'' : kx_S → Prop} (hQ : ∀ y0, Q y0 → Q' y0 → Q'' y0) : ∀ (n : Nat) (l0 : Nat) (l1 : Int32) (σ : kx_S), wX11_moveLogs_2 Q n l0 l1 σ → vX11_moveLogs_2 Q' n l0 l1 σ → wX11_moveLogs_2 Q'' n l0 l1 σ := by
  intro n
  induction n with
  | zero => intro l0 l1 σ h; exact h.elim
  | succ n ih =>
    intro l0 l1 σ h v
    unfold wX11_moveLogs_2 at h
    unfold vX11_moveLogs_2 at v
    unfold wX11_moveLogs_2
    refine ⟨h.1, ?_⟩
    have v := v h.1
    have h := h.2
    obtain ⟨a8, e2, h⟩ := h
    refine ⟨a8, e2, ?_⟩
    have v := v a8 e2
    refine ⟨h.1, ?_⟩
    have v := v h.1
    have h := h.2
    refine jcJx4a65c_size_8abf5 ?_ _ _ h v
    intro r11 σ10 h v
    refine ⟨?_, ?_⟩
    · have h := h.1
      have v := v.1
      intro e4
      have h := h e4
      have v := v e4
      exact hQ _ h v
    · have h := h.2
      have v := v.2
      intro e5
      have h := h e5
      have v := v e5
      refine ⟨h.1, ?_⟩
      have v := v h.1
      have h := h.2
      obtain ⟨a15, e7, h⟩ := h
      refine ⟨a15, e7, ?_⟩
      have v := v a15 e7
      refine ⟨h.1, ?_⟩
      have v := v h.1
      have h := h.2
      refine jcJx4a65c_get_915e3 ?_ _ _ _ h v
      intro q18 σ17 h v
      obtain ⟨a20, e9, h⟩ := h
      refine ⟨a20, e9, ?_⟩
      have v := v a20 e9
      refine ⟨h.1, ?_⟩
      have v := v h.1
      have h := h.2
      intro v23 e11
      have h := h v23 e11
      have v := v v23 e11
      obtain ⟨a24, e12, h⟩ := h
      refine ⟨a24, e12, ?_⟩
      have v := v a24 e12
      refine ⟨h.1, ?_⟩
      have v := v h.1
      have h := h.2
      refine jcJx4a65c_size_8abf5 ?_ _ _ h v
      intro r27 σ26 h v
      intro v29 e14
      have h := h v29 e14
      have v := v v29 e14
      obtain ⟨j, h⟩ := h
      refine ⟨j, ?_⟩
      have v := v j
      exact jcX11_moveLogs_55 (k78 := wX11_moveLogs_78 (wX11_moveLogs_2 Q n) Q) (k78' := vX11_moveLogs_78 (vX11_moveLogs_2 Q' n) Q') (k78'' := wX11_moveLogs_78 (wX11_moveLogs_2 Q'' n) Q'') (fun _ _ _ h v => jcX11_moveLogs_78 (k2 := wX11_moveLogs_2 Q n) (k2' := vX11_moveLogs_2 Q' n) (k2'' := wX11_moveLogs_2 Q'' n) (fun _ _ _ h v => ih _ _ _ h v) hQ _ _ _ h v) hQ _ _ _ _ _ _ _ h v
set_option maxRecDepth 100000 in
set_option maxHeartbeats 4000000 in
theorem jaX11_moveLogs_2 {Q Q' : kx_S → Prop} (hQ : ∀ y0, Q y0 → Q' y0) : ∀ (n m : Nat) (l0 : Nat) (l1 : Int32) (σ : kx_S), wX11_moveLogs_2 Q n l0 l1 σ → vX11_moveLogs_2 Q' m l0 l1 σ := by
  intro n
  induction n with
  | zero => intro m l0 l1 σ h; exact h.elim
  | succ n ih =>
    intro m l0 l1 σ h
    cases m with
    | zero => exact trivial
    | succ m =>
      unfold wX11_moveLogs_2 at h
      unfold vX11_moveLogs_2
      intro e1
      have h := h.2
      obtain ⟨a8', e2, h⟩ := h
      intro a8 e3
      have x9 : a8' = a8 := Option.some.inj (e2.symm.trans e3)
      rw [x9] at h
      intro e4
      have h := h.2
      refine jaJx4a65c_size_8abf5 ?_ _ _ h
      intro r11 σ10 h
      refine ⟨?_, ?_⟩
      · have h := h.1
        intro e5
        have h := h e5
        exact hQ _ h
      · have h := h.2
        intro e6
        have h := h e6
        intro e7
        have h := h.2
        obtain ⟨a15', e8, h⟩ := h
        intro a15 e9
        have x9 : a15' = a15 := Option.some.inj (e8.symm.trans e9)
        rw [x9] at h
        intro e10
        have h := h.2
        refine jaJx4a65c_get_915e3 ?_ _ _ _ h
        intro q18 σ17 h
        obtain ⟨a20', e11, h⟩ := h
        intro a20 e12
        have x9 : a20' = a20 := Option.some.inj (e11.symm.trans e12)
        rw [x9] at h
        intro e13
        have h := h.2
        intro v23 e14
        have h := h v23 e14
        obtain ⟨a24', e15, h⟩ := h
        intro a24 e16
        have x9 : a24' = a24 := Option.some.inj (e15.symm.trans e16)
        rw [x9] at h
        intro e17
        have h := h.2
        refine jaJx4a65c_size_8abf5 ?_ _ _ h
        intro r27 σ26 h
        intro v29 e18
        have h := h v29 e18
        obtain ⟨j, h⟩ := h
        intro j9
        exact jaX11_moveLogs_55 (k78 := wX11_moveLogs_78 (wX11_moveLogs_2 Q n) Q) (k78' := vX11_moveLogs_78 (vX11_moveLogs_2 Q' m) Q') (fun _ _ _ h => jaX11_moveLogs_78 (k2 := wX11_moveLogs_2 Q n) (k2' := vX11_moveLogs_2 Q' m) (fun _ _ _ h => ih m _ _ _ h) hQ _ _ _ h) hQ _ j9 _ _ _ _ _ _ h
set_option maxRecDepth 100000 in
set_option maxHeartbeats 4000000 in
theorem jfX11_moveLogs_2 {I : kx_S → Prop} (W : fw_ I [16, 17, 18, 82, 83, 84, 132, 133, 134, 1001, 1002, 1003, 1222]) {Q : kx_S → Prop} (hQ : ∀ y0, I y0 → Q y0) : ∀ (n : Nat) (l0 : Nat) (l1 : Int32) (σ : kx_S), I σ → vX11_moveLogs_2 Q n l0 l1 σ := by
  intro n
  induction n with
  | zero => intro l0 l1 σ i; exact trivial
  | succ n ih =>
    intro l0 l1 σ i
    unfold vX11_moveLogs_2
    intro e1
    intro a8 e2
    intro e3
    refine jfJx4a65c_size_8abf5 (I := I) (fw_sub W (by decide)) ?_ _ _ i
    intro r11 σ10 iσ10
    refine ⟨?_, ?_⟩
    · intro e4
      exact hQ _ iσ10
    · intro e5
      intro e6
      intro a15 e7
      intro e8
      refine jfJx4a65c_get_915e3 (I := I) (fw_sub W (by decide)) ?_ _ _ _ iσ10
      intro q18 σ17 iσ17
      intro a20 e9
      intro e10
      intro v23 e11
      intro a24 e12
      intro e13
      refine jfJx4a65c_size_8abf5 (I := I) (fw_sub W (by decide)) ?_ _ _ iσ17
      intro r27 σ26 iσ26
      intro v29 e14
      intro j
      exact jfX11_moveLogs_55 (I := I) (fw_sub W (by decide)) (k78 := vX11_moveLogs_78 (vX11_moveLogs_2 Q n) Q) (fun _ _ _ i => jfX11_moveLogs_78 (I := I) (fw_sub W (by decide)) (k2 := vX11_moveLogs_2 Q n) (fun _ _ _ i => ih _ _ _ i) hQ _ _ _ i) hQ _ _ _ _ _ _ _ iσ26
def vX11_moveLogs (l0 : Nat) (σ : kx_S) (Q : kx_S → Prop) : Prop := ∀ j, vX11_moveLogs_2 Q j l0 0 σ
set_option maxRecDepth 100000 in
set_option maxHeartbeats 4000000 in
theorem jcX11_moveLogs {Q Q' Q'' : kx_S → Prop} (hQ : ∀ y0, Q y0 → Q' y0 → Q'' y0) : ∀ (l0 : Nat) (σ : kx_S), wX11_moveLogs l0 σ Q → vX11_moveLogs l0 σ Q' → wX11_moveLogs l0 σ Q'' := by
  intro l0 σ h v
  unfold wX11_moveLogs at h
  unfold vX11_moveLogs at v
  unfold wX11_moveLogs
  obtain ⟨j, h⟩ := h
  refine ⟨j, ?_⟩
  have v := v j
  exact jcX11_moveLogs_2 hQ _ _ _ _ h v
set_option maxRecDepth 100000 in
set_option maxHeartbeats 4000000 in
theorem jaX11_moveLogs {Q Q' : kx_S → Prop} (hQ : ∀ y0, Q y0 → Q' y0) : ∀ (l0 : Nat) (σ : kx_S), wX11_moveLogs l0 σ Q → vX11_moveLogs l0 σ Q' := by
  intro l0 σ h
  unfold wX11_moveLogs at h
  unfold vX11_moveLogs
  obtain ⟨j, h⟩ := h
  intro j9
  exact jaX11_moveLogs_2 hQ _ j9 _ _ _ h
set_option maxRecDepth 100000 in
set_option maxHeartbeats 4000000 in
theorem jfX11_moveLogs {I : kx_S → Prop} (W : fw_ I [16, 17, 18, 82, 83, 84, 132, 133, 134, 1001, 1002, 1003, 1222]) {Q : kx_S → Prop} (hQ : ∀ y0, I y0 → Q y0) : ∀ (l0 : Nat) (σ : kx_S), I σ → vX11_moveLogs l0 σ Q := by
  intro l0 σ i
  unfold vX11_moveLogs
  intro j
  exact jfX11_moveLogs_2 (I := I) (fw_sub W (by decide)) hQ _ _ _ _ i
def vX11_jamCells_44 (k2 : Nat → Int32 → kx_S → Prop) (Q : kx_S → Prop) (l0 : Nat) (l1 : Int32) (σ : kx_S) : Prop := ∀ v1 : Int32, v1 = l1 + 1 → k2 l0 v1 σ
set_option maxRecDepth 100000 in
set_option maxHeartbeats 4000000 in
theorem jcX11_jamCells_44 {k2 k2' k2'' : Nat → Int32 → kx_S → Prop} (hk2 : ∀ y0 y1 y2, k2 y0 y1 y2 → k2' y0 y1 y2 → k2'' y0 y1 y2) {Q Q' Q'' : kx_S → Prop} (hQ : ∀ y0, Q y0 → Q' y0 → Q'' y0) : ∀ (l0 : Nat) (l1 : Int32) (σ : kx_S), wX11_jamCells_44 k2 Q l0 l1 σ → vX11_jamCells_44 k2' Q' l0 l1 σ → wX11_jamCells_44 k2'' Q'' l0 l1 σ := by
  intro l0 l1 σ h v
  unfold wX11_jamCells_44 at h
  unfold vX11_jamCells_44 at v
  unfold wX11_jamCells_44
  intro v1 e1
  have h := h v1 e1
  have v := v v1 e1
  exact hk2 _ _ _ h v
set_option maxRecDepth 100000 in
set_option maxHeartbeats 4000000 in
theorem jaX11_jamCells_44 {k2 k2' : Nat → Int32 → kx_S → Prop} (hk2 : ∀ y0 y1 y2, k2 y0 y1 y2 → k2' y0 y1 y2) {Q Q' : kx_S → Prop} (hQ : ∀ y0, Q y0 → Q' y0) : ∀ (l0 : Nat) (l1 : Int32) (σ : kx_S), wX11_jamCells_44 k2 Q l0 l1 σ → vX11_jamCells_44 k2' Q' l0 l1 σ := by
  intro l0 l1 σ h
  unfold wX11_jamCells_44 at h
  unfold vX11_jamCells_44
  intro v1 e1
  have h := h v1 e1
  exact hk2 _ _ _ h
set_option maxRecDepth 100000 in
set_option maxHeartbeats 4000000 in
theorem jfX11_jamCells_44 {I : kx_S → Prop} (W : fw_ I []) {k2 : Nat → Int32 → kx_S → Prop} (hk2 : ∀ y0 y1 y2, I y2 → k2 y0 y1 y2) {Q : kx_S → Prop} (hQ : ∀ y0, I y0 → Q y0) : ∀ (l0 : Nat) (l1 : Int32) (σ : kx_S), I σ → vX11_jamCells_44 k2 Q l0 l1 σ := by
  intro l0 l1 σ i
  unfold vX11_jamCells_44
  intro v1 e1
  exact hk2 _ _ _ i
def vX11_jamCells_2 (Q : kx_S → Prop) : Nat → Nat → Int32 → kx_S → Prop
  | 0, _, _, _ => True
  | n + 1, l0, l1, σ => xt σ l0 = 13 → ∀ a3, xr σ 208 l0 = some a3 → xt σ a3 = 1 → vJx4a65c_size_8abf5 a3 σ (fun r6 σ5 => ((r6 ≤ l1 → Q σ5) ∧ (¬ (r6 ≤ l1) → xt σ5 l0 = 13 → ∀ a10, xr σ5 208 l0 = some a10 → xt σ5 a10 = 1 → vJx4a65c_get_915e3 a10 l1 σ5 (fun q13 σ12 => ∀ a15, q13 = some a15 → xt σ12 a15 = 10 → (((xi σ12 162 a15) ≤ (xi σ12 169 a15) → vX11_jamCells_44 (vX11_jamCells_2 Q n) Q l0 l1 σ12) ∧ (¬ ((xi σ12 162 a15) ≤ (xi σ12 169 a15)) → vX8_jamFullCells a15 σ12 (fun σ19 => vX11_jamCells_44 (vX11_jamCells_2 Q n) Q l0 l1 σ19)))))))
set_option maxRecDepth 100000 in
set_option maxHeartbeats 4000000 in
theorem jcX11_jamCells_2 {Q Q' Q'' : kx_S → Prop} (hQ : ∀ y0, Q y0 → Q' y0 → Q'' y0) : ∀ (n : Nat) (l0 : Nat) (l1 : Int32) (σ : kx_S), wX11_jamCells_2 Q n l0 l1 σ → vX11_jamCells_2 Q' n l0 l1 σ → wX11_jamCells_2 Q'' n l0 l1 σ := by
  intro n
  induction n with
  | zero => intro l0 l1 σ h; exact h.elim
  | succ n ih =>
    intro l0 l1 σ h v
    unfold wX11_jamCells_2 at h
    unfold vX11_jamCells_2 at v
    unfold wX11_jamCells_2
    refine ⟨h.1, ?_⟩
    have v := v h.1
    have h := h.2
    obtain ⟨a3, e2, h⟩ := h
    refine ⟨a3, e2, ?_⟩
    have v := v a3 e2
    refine ⟨h.1, ?_⟩
    have v := v h.1
    have h := h.2
    refine jcJx4a65c_size_8abf5 ?_ _ _ h v
    intro r6 σ5 h v
    refine ⟨?_, ?_⟩
    · have h := h.1
      have v := v.1
      intro e4
      have h := h e4
      have v := v e4
      exact hQ _ h v
    · have h := h.2
      have v := v.2
      intro e5
      have h := h e5
      have v := v e5
      refine ⟨h.1, ?_⟩
      have v := v h.1
      have h := h.2
      obtain ⟨a10, e7, h⟩ := h
      refine ⟨a10, e7, ?_⟩
      have v := v a10 e7
      refine ⟨h.1, ?_⟩
      have v := v h.1
      have h := h.2
      refine jcJx4a65c_get_915e3 ?_ _ _ _ h v
      intro q13 σ12 h v
      obtain ⟨a15, e9, h⟩ := h
      refine ⟨a15, e9, ?_⟩
      have v := v a15 e9
      refine ⟨h.1, ?_⟩
      have v := v h.1
      have h := h.2
      refine ⟨?_, ?_⟩
      · have h := h.1
        have v := v.1
        intro e11
        have h := h e11
        have v := v e11
        exact jcX11_jamCells_44 (k2 := wX11_jamCells_2 Q n) (k2' := vX11_jamCells_2 Q' n) (k2'' := wX11_jamCells_2 Q'' n) (fun _ _ _ h v => ih _ _ _ h v) hQ _ _ _ h v
      · have h := h.2
        have v := v.2
        intro e12
        have h := h e12
        have v := v e12
        refine jcX8_jamFullCells ?_ _ _ h v
        intro σ19 h v
        exact jcX11_jamCells_44 (k2 := wX11_jamCells_2 Q n) (k2' := vX11_jamCells_2 Q' n) (k2'' := wX11_jamCells_2 Q'' n) (fun _ _ _ h v => ih _ _ _ h v) hQ _ _ _ h v
set_option maxRecDepth 100000 in
set_option maxHeartbeats 4000000 in
theorem jaX11_jamCells_2 {Q Q' : kx_S → Prop} (hQ : ∀ y0, Q y0 → Q' y0) : ∀ (n m : Nat) (l0 : Nat) (l1 : Int32) (σ : kx_S), wX11_jamCells_2 Q n l0 l1 σ → vX11_jamCells_2 Q' m l0 l1 σ := by
  intro n
  induction n with
  | zero => intro m l0 l1 σ h; exact h.elim
  | succ n ih =>
    intro m l0 l1 σ h
    cases m with
    | zero => exact trivial
    | succ m =>
      unfold wX11_jamCells_2 at h
      unfold vX11_jamCells_2
      intro e1
      have h := h.2
      obtain ⟨a3', e2, h⟩ := h
      intro a3 e3
      have x9 : a3' = a3 := Option.some.inj (e2.symm.trans e3)
      rw [x9] at h
      intro e4
      have h := h.2
      refine jaJx4a65c_size_8abf5 ?_ _ _ h
      intro r6 σ5 h
      refine ⟨?_, ?_⟩
      · have h := h.1
        intro e5
        have h := h e5
        exact hQ _ h
      · have h := h.2
        intro e6
        have h := h e6
        intro e7
        have h := h.2
        obtain ⟨a10', e8, h⟩ := h
        intro a10 e9
        have x9 : a10' = a10 := Option.some.inj (e8.symm.trans e9)
        rw [x9] at h
        intro e10
        have h := h.2
        refine jaJx4a65c_get_915e3 ?_ _ _ _ h
        intro q13 σ12 h
        obtain ⟨a15', e11, h⟩ := h
        intro a15 e12
        have x9 : a15' = a15 := Option.some.inj (e11.symm.trans e12)
        rw [x9] at h
        intro e13
        have h := h.2
        refine ⟨?_, ?_⟩
        · have h := h.1
          intro e14
          have h := h e14
          exact jaX11_jamCells_44 (k2 := wX11_jamCells_2 Q n) (k2' := vX11_jamCells_2 Q' m) (fun _ _ _ h => ih m _ _ _ h) hQ _ _ _ h
        · have h := h.2
          intro e15
          have h := h e15
          refine jaX8_jamFullCells ?_ _ _ h
          intro σ19 h
          exact jaX11_jamCells_44 (k2 := wX11_jamCells_2 Q n) (k2' := vX11_jamCells_2 Q' m) (fun _ _ _ h => ih m _ _ _ h) hQ _ _ _ h
set_option maxRecDepth 100000 in
set_option maxHeartbeats 4000000 in
theorem jfX11_jamCells_2 {I : kx_S → Prop} (W : fw_ I [50]) {Q : kx_S → Prop} (hQ : ∀ y0, I y0 → Q y0) : ∀ (n : Nat) (l0 : Nat) (l1 : Int32) (σ : kx_S), I σ → vX11_jamCells_2 Q n l0 l1 σ := by
  intro n
  induction n with
  | zero => intro l0 l1 σ i; exact trivial
  | succ n ih =>
    intro l0 l1 σ i
    unfold vX11_jamCells_2
    intro e1
    intro a3 e2
    intro e3
    refine jfJx4a65c_size_8abf5 (I := I) (fw_sub W (by decide)) ?_ _ _ i
    intro r6 σ5 iσ5
    refine ⟨?_, ?_⟩
    · intro e4
      exact hQ _ iσ5
    · intro e5
      intro e6
      intro a10 e7
      intro e8
      refine jfJx4a65c_get_915e3 (I := I) (fw_sub W (by decide)) ?_ _ _ _ iσ5
      intro q13 σ12 iσ12
      intro a15 e9
      intro e10
      refine ⟨?_, ?_⟩
      · intro e11
        exact jfX11_jamCells_44 (I := I) (fw_sub W (by decide)) (k2 := vX11_jamCells_2 Q n) (fun _ _ _ i => ih _ _ _ i) hQ _ _ _ iσ12
      · intro e12
        refine jfX8_jamFullCells (I := I) (fw_sub W (by decide)) ?_ _ _ iσ12
        intro σ19 iσ19
        exact jfX11_jamCells_44 (I := I) (fw_sub W (by decide)) (k2 := vX11_jamCells_2 Q n) (fun _ _ _ i => ih _ _ _ i) hQ _ _ _ iσ19
def vX11_jamCells (l0 : Nat) (σ : kx_S) (Q : kx_S → Prop) : Prop := ∀ j, vX11_jamCells_2 Q j l0 0 σ
set_option maxRecDepth 100000 in
set_option maxHeartbeats 4000000 in
theorem jcX11_jamCells {Q Q' Q'' : kx_S → Prop} (hQ : ∀ y0, Q y0 → Q' y0 → Q'' y0) : ∀ (l0 : Nat) (σ : kx_S), wX11_jamCells l0 σ Q → vX11_jamCells l0 σ Q' → wX11_jamCells l0 σ Q'' := by
  intro l0 σ h v
  unfold wX11_jamCells at h
  unfold vX11_jamCells at v
  unfold wX11_jamCells
  obtain ⟨j, h⟩ := h
  refine ⟨j, ?_⟩
  have v := v j
  exact jcX11_jamCells_2 hQ _ _ _ _ h v
set_option maxRecDepth 100000 in
set_option maxHeartbeats 4000000 in
theorem jaX11_jamCells {Q Q' : kx_S → Prop} (hQ : ∀ y0, Q y0 → Q' y0) : ∀ (l0 : Nat) (σ : kx_S), wX11_jamCells l0 σ Q → vX11_jamCells l0 σ Q' := by
  intro l0 σ h
  unfold wX11_jamCells at h
  unfold vX11_jamCells
  obtain ⟨j, h⟩ := h
  intro j9
  exact jaX11_jamCells_2 hQ _ j9 _ _ _ h
set_option maxRecDepth 100000 in
set_option maxHeartbeats 4000000 in
theorem jfX11_jamCells {I : kx_S → Prop} (W : fw_ I [50]) {Q : kx_S → Prop} (hQ : ∀ y0, I y0 → Q y0) : ∀ (l0 : Nat) (σ : kx_S), I σ → vX11_jamCells l0 σ Q := by
  intro l0 σ i
  unfold vX11_jamCells
  intro j
  exact jfX11_jamCells_2 (I := I) (fw_sub W (by decide)) hQ _ _ _ _ i
def vX11_freeJams_58 (k2 : Nat → Int32 → kx_S → Prop) (Q : kx_S → Prop) (l0 : Nat) (l1 : Int32) (σ : kx_S) : Prop := ∀ v1 : Int32, v1 = l1 + 1 → k2 l0 v1 σ
set_option maxRecDepth 100000 in
set_option maxHeartbeats 4000000 in
theorem jcX11_freeJams_58 {k2 k2' k2'' : Nat → Int32 → kx_S → Prop} (hk2 : ∀ y0 y1 y2, k2 y0 y1 y2 → k2' y0 y1 y2 → k2'' y0 y1 y2) {Q Q' Q'' : kx_S → Prop} (hQ : ∀ y0, Q y0 → Q' y0 → Q'' y0) : ∀ (l0 : Nat) (l1 : Int32) (σ : kx_S), wX11_freeJams_58 k2 Q l0 l1 σ → vX11_freeJams_58 k2' Q' l0 l1 σ → wX11_freeJams_58 k2'' Q'' l0 l1 σ := by
  intro l0 l1 σ h v
  unfold wX11_freeJams_58 at h
  unfold vX11_freeJams_58 at v
  unfold wX11_freeJams_58
  intro v1 e1
  have h := h v1 e1
  have v := v v1 e1
  exact hk2 _ _ _ h v
set_option maxRecDepth 100000 in
set_option maxHeartbeats 4000000 in
theorem jaX11_freeJams_58 {k2 k2' : Nat → Int32 → kx_S → Prop} (hk2 : ∀ y0 y1 y2, k2 y0 y1 y2 → k2' y0 y1 y2) {Q Q' : kx_S → Prop} (hQ : ∀ y0, Q y0 → Q' y0) : ∀ (l0 : Nat) (l1 : Int32) (σ : kx_S), wX11_freeJams_58 k2 Q l0 l1 σ → vX11_freeJams_58 k2' Q' l0 l1 σ := by
  intro l0 l1 σ h
  unfold wX11_freeJams_58 at h
  unfold vX11_freeJams_58
  intro v1 e1
  have h := h v1 e1
  exact hk2 _ _ _ h
set_option maxRecDepth 100000 in
set_option maxHeartbeats 4000000 in
theorem jfX11_freeJams_58 {I : kx_S → Prop} (W : fw_ I []) {k2 : Nat → Int32 → kx_S → Prop} (hk2 : ∀ y0 y1 y2, I y2 → k2 y0 y1 y2) {Q : kx_S → Prop} (hQ : ∀ y0, I y0 → Q y0) : ∀ (l0 : Nat) (l1 : Int32) (σ : kx_S), I σ → vX11_freeJams_58 k2 Q l0 l1 σ := by
  intro l0 l1 σ i
  unfold vX11_freeJams_58
  intro v1 e1
  exact hk2 _ _ _ i
def vX11_freeJams_2 (Q : kx_S → Prop) : Nat → Nat → Int32 → kx_S → Prop
  | 0, _, _, _ => True
  | n + 1, l0, l1, σ => xt σ l0 = 13 → ∀ a3, xr σ 211 l0 = some a3 → xt σ a3 = 1 → vJx4a65c_size_8abf5 a3 σ (fun r6 σ5 => ((r6 ≤ l1 → Q σ5) ∧ (¬ (r6 ≤ l1) → xt σ5 l0 = 13 → ∀ a10, xr σ5 211 l0 = some a10 → xt σ5 a10 = 1 → vJx4a65c_get_915e3 a10 l1 σ5 (fun q13 σ12 => ∀ a15, q13 = some a15 → xt σ12 a15 = 4 → xt σ12 l0 = 13 → (((xi σ12 217 l0) < (xi σ12 65 a15) → vX11_freeJams_58 (vX11_freeJams_2 Q n) Q l0 l1 σ12) ∧ (¬ ((xi σ12 217 l0) < (xi σ12 65 a15)) → ∀ a20, xr σ12 64 a15 = some a20 → xt σ12 a20 = 10 → vX8_freesLowestJam a20 σ12 (fun r23 σ22 => ((r23 = 0 → vX11_freeJams_58 (vX11_freeJams_2 Q n) Q l0 l1 σ22) ∧ (¬ (r23 = 0) → xt σ22 l0 = 13 → xt σ22 a15 = 4 → vX2_rest a15 (xi σ22 217 l0) σ22 (fun σ27 => vX11_freeJams_58 (vX11_freeJams_2 Q n) Q l0 l1 σ27))))))))))
set_option maxRecDepth 100000 in
set_option maxHeartbeats 4000000 in
theorem jcX11_freeJams_2 {Q Q' Q'' : kx_S → Prop} (hQ : ∀ y0, Q y0 → Q' y0 → Q'' y0) : ∀ (n : Nat) (l0 : Nat) (l1 : Int32) (σ : kx_S), wX11_freeJams_2 Q n l0 l1 σ → vX11_freeJams_2 Q' n l0 l1 σ → wX11_freeJams_2 Q'' n l0 l1 σ := by
  intro n
  induction n with
  | zero => intro l0 l1 σ h; exact h.elim
  | succ n ih =>
    intro l0 l1 σ h v
    unfold wX11_freeJams_2 at h
    unfold vX11_freeJams_2 at v
    unfold wX11_freeJams_2
    refine ⟨h.1, ?_⟩
    have v := v h.1
    have h := h.2
    obtain ⟨a3, e2, h⟩ := h
    refine ⟨a3, e2, ?_⟩
    have v := v a3 e2
    refine ⟨h.1, ?_⟩
    have v := v h.1
    have h := h.2
    refine jcJx4a65c_size_8abf5 ?_ _ _ h v
    intro r6 σ5 h v
    refine ⟨?_, ?_⟩
    · have h := h.1
      have v := v.1
      intro e4
      have h := h e4
      have v := v e4
      exact hQ _ h v
    · have h := h.2
      have v := v.2
      intro e5
      have h := h e5
      have v := v e5
      refine ⟨h.1, ?_⟩
      have v := v h.1
      have h := h.2
      obtain ⟨a10, e7, h⟩ := h
      refine ⟨a10, e7, ?_⟩
      have v := v a10 e7
      refine ⟨h.1, ?_⟩
      have v := v h.1
      have h := h.2
      refine jcJx4a65c_get_915e3 ?_ _ _ _ h v
      intro q13 σ12 h v
      obtain ⟨a15, e9, h⟩ := h
      refine ⟨a15, e9, ?_⟩
      have v := v a15 e9
      refine ⟨h.1, ?_⟩
      have v := v h.1
      have h := h.2
      refine ⟨h.1, ?_⟩
      have v := v h.1
      have h := h.2
      refine ⟨?_, ?_⟩
      · have h := h.1
        have v := v.1
        intro e12
        have h := h e12
        have v := v e12
        exact jcX11_freeJams_58 (k2 := wX11_freeJams_2 Q n) (k2' := vX11_freeJams_2 Q' n) (k2'' := wX11_freeJams_2 Q'' n) (fun _ _ _ h v => ih _ _ _ h v) hQ _ _ _ h v
      · have h := h.2
        have v := v.2
        intro e13
        have h := h e13
        have v := v e13
        obtain ⟨a20, e14, h⟩ := h
        refine ⟨a20, e14, ?_⟩
        have v := v a20 e14
        refine ⟨h.1, ?_⟩
        have v := v h.1
        have h := h.2
        refine jcX8_freesLowestJam ?_ _ _ h v
        intro r23 σ22 h v
        refine ⟨?_, ?_⟩
        · have h := h.1
          have v := v.1
          intro e16
          have h := h e16
          have v := v e16
          exact jcX11_freeJams_58 (k2 := wX11_freeJams_2 Q n) (k2' := vX11_freeJams_2 Q' n) (k2'' := wX11_freeJams_2 Q'' n) (fun _ _ _ h v => ih _ _ _ h v) hQ _ _ _ h v
        · have h := h.2
          have v := v.2
          intro e17
          have h := h e17
          have v := v e17
          refine ⟨h.1, ?_⟩
          have v := v h.1
          have h := h.2
          refine ⟨h.1, ?_⟩
          have v := v h.1
          have h := h.2
          refine jcX2_rest ?_ _ _ _ h v
          intro σ27 h v
          exact jcX11_freeJams_58 (k2 := wX11_freeJams_2 Q n) (k2' := vX11_freeJams_2 Q' n) (k2'' := wX11_freeJams_2 Q'' n) (fun _ _ _ h v => ih _ _ _ h v) hQ _ _ _ h v
set_option maxRecDepth 100000 in
set_option maxHeartbeats 4000000 in
theorem jaX11_freeJams_2 {Q Q' : kx_S → Prop} (hQ : ∀ y0, Q y0 → Q' y0) : ∀ (n m : Nat) (l0 : Nat) (l1 : Int32) (σ : kx_S), wX11_freeJams_2 Q n l0 l1 σ → vX11_freeJams_2 Q' m l0 l1 σ := by
  intro n
  induction n with
  | zero => intro m l0 l1 σ h; exact h.elim
  | succ n ih =>
    intro m l0 l1 σ h
    cases m with
    | zero => exact trivial
    | succ m =>
      unfold wX11_freeJams_2 at h
      unfold vX11_freeJams_2
      intro e1
      have h := h.2
      obtain ⟨a3', e2, h⟩ := h
      intro a3 e3
      have x9 : a3' = a3 := Option.some.inj (e2.symm.trans e3)
      rw [x9] at h
      intro e4
      have h := h.2
      refine jaJx4a65c_size_8abf5 ?_ _ _ h
      intro r6 σ5 h
      refine ⟨?_, ?_⟩
      · have h := h.1
        intro e5
        have h := h e5
        exact hQ _ h
      · have h := h.2
        intro e6
        have h := h e6
        intro e7
        have h := h.2
        obtain ⟨a10', e8, h⟩ := h
        intro a10 e9
        have x9 : a10' = a10 := Option.some.inj (e8.symm.trans e9)
        rw [x9] at h
        intro e10
        have h := h.2
        refine jaJx4a65c_get_915e3 ?_ _ _ _ h
        intro q13 σ12 h
        obtain ⟨a15', e11, h⟩ := h
        intro a15 e12
        have x9 : a15' = a15 := Option.some.inj (e11.symm.trans e12)
        rw [x9] at h
        intro e13
        have h := h.2
        intro e14
        have h := h.2
        refine ⟨?_, ?_⟩
        · have h := h.1
          intro e15
          have h := h e15
          exact jaX11_freeJams_58 (k2 := wX11_freeJams_2 Q n) (k2' := vX11_freeJams_2 Q' m) (fun _ _ _ h => ih m _ _ _ h) hQ _ _ _ h
        · have h := h.2
          intro e16
          have h := h e16
          obtain ⟨a20', e17, h⟩ := h
          intro a20 e18
          have x9 : a20' = a20 := Option.some.inj (e17.symm.trans e18)
          rw [x9] at h
          intro e19
          have h := h.2
          refine jaX8_freesLowestJam ?_ _ _ h
          intro r23 σ22 h
          refine ⟨?_, ?_⟩
          · have h := h.1
            intro e20
            have h := h e20
            exact jaX11_freeJams_58 (k2 := wX11_freeJams_2 Q n) (k2' := vX11_freeJams_2 Q' m) (fun _ _ _ h => ih m _ _ _ h) hQ _ _ _ h
          · have h := h.2
            intro e21
            have h := h e21
            intro e22
            have h := h.2
            intro e23
            have h := h.2
            refine jaX2_rest ?_ _ _ _ h
            intro σ27 h
            exact jaX11_freeJams_58 (k2 := wX11_freeJams_2 Q n) (k2' := vX11_freeJams_2 Q' m) (fun _ _ _ h => ih m _ _ _ h) hQ _ _ _ h
set_option maxRecDepth 100000 in
set_option maxHeartbeats 4000000 in
theorem jfX11_freeJams_2 {I : kx_S → Prop} (W : fw_ I [50, 51, 65]) {Q : kx_S → Prop} (hQ : ∀ y0, I y0 → Q y0) : ∀ (n : Nat) (l0 : Nat) (l1 : Int32) (σ : kx_S), I σ → vX11_freeJams_2 Q n l0 l1 σ := by
  intro n
  induction n with
  | zero => intro l0 l1 σ i; exact trivial
  | succ n ih =>
    intro l0 l1 σ i
    unfold vX11_freeJams_2
    intro e1
    intro a3 e2
    intro e3
    refine jfJx4a65c_size_8abf5 (I := I) (fw_sub W (by decide)) ?_ _ _ i
    intro r6 σ5 iσ5
    refine ⟨?_, ?_⟩
    · intro e4
      exact hQ _ iσ5
    · intro e5
      intro e6
      intro a10 e7
      intro e8
      refine jfJx4a65c_get_915e3 (I := I) (fw_sub W (by decide)) ?_ _ _ _ iσ5
      intro q13 σ12 iσ12
      intro a15 e9
      intro e10
      intro e11
      refine ⟨?_, ?_⟩
      · intro e12
        exact jfX11_freeJams_58 (I := I) (fw_sub W (by decide)) (k2 := vX11_freeJams_2 Q n) (fun _ _ _ i => ih _ _ _ i) hQ _ _ _ iσ12
      · intro e13
        intro a20 e14
        intro e15
        refine jfX8_freesLowestJam (I := I) (fw_sub W (by decide)) ?_ _ _ iσ12
        intro r23 σ22 iσ22
        refine ⟨?_, ?_⟩
        · intro e16
          exact jfX11_freeJams_58 (I := I) (fw_sub W (by decide)) (k2 := vX11_freeJams_2 Q n) (fun _ _ _ i => ih _ _ _ i) hQ _ _ _ iσ22
        · intro e17
          intro e18
          intro e19
          refine jfX2_rest (I := I) (fw_sub W (by decide)) ?_ _ _ _ iσ22
          intro σ27 iσ27
          exact jfX11_freeJams_58 (I := I) (fw_sub W (by decide)) (k2 := vX11_freeJams_2 Q n) (fun _ _ _ i => ih _ _ _ i) hQ _ _ _ iσ27
end
section
def vX11_freeJams (l0 : Nat) (σ : kx_S) (Q : kx_S → Prop) : Prop := ∀ j, vX11_freeJams_2 Q j l0 0 σ
set_option maxRecDepth 100000 in
set_option maxHeartbeats 4000000 in
theorem jcX11_freeJams {Q Q' Q'' : kx_S → Prop} (hQ : ∀ y0, Q y0 → Q' y0 → Q'' y0) : ∀ (l0 : Nat) (σ : kx_S), wX11_freeJams l0 σ Q → vX11_freeJams l0 σ Q' → wX11_freeJams l0 σ Q'' := by
  intro l0 σ h v
  unfold wX11_freeJams at h
  unfold vX11_freeJams at v
  unfold wX11_freeJams
  obtain ⟨j, h⟩ := h
  refine ⟨j, ?_⟩
  have v := v j
  exact jcX11_freeJams_2 hQ _ _ _ _ h v
set_option maxRecDepth 100000 in
set_option maxHeartbeats 4000000 in
theorem jaX11_freeJams {Q Q' : kx_S → Prop} (hQ : ∀ y0, Q y0 → Q' y0) : ∀ (l0 : Nat) (σ : kx_S), wX11_freeJams l0 σ Q → vX11_freeJams l0 σ Q' := by
  intro l0 σ h
  unfold wX11_freeJams at h
  unfold vX11_freeJams
  obtain ⟨j, h⟩ := h
  intro j9
  exact jaX11_freeJams_2 hQ _ j9 _ _ _ h
set_option maxRecDepth 100000 in
set_option maxHeartbeats 4000000 in
theorem jfX11_freeJams {I : kx_S → Prop} (W : fw_ I [50, 51, 65]) {Q : kx_S → Prop} (hQ : ∀ y0, I y0 → Q y0) : ∀ (l0 : Nat) (σ : kx_S), I σ → vX11_freeJams l0 σ Q := by
  intro l0 σ i
  unfold vX11_freeJams
  intro j
  exact jfX11_freeJams_2 (I := I) (fw_sub W (by decide)) hQ _ _ _ _ i
def vX11_makeJamsKnown_50 (k2 : Nat → Int32 → kx_S → Prop) (Q : kx_S → Prop) (l0 : Nat) (l1 : Int32) (σ : kx_S) : Prop := ∀ v1 : Int32, v1 = l1 + 1 → k2 l0 v1 σ
set_option maxRecDepth 100000 in
set_option maxHeartbeats 4000000 in
theorem jcX11_makeJamsKnown_50 {k2 k2' k2'' : Nat → Int32 → kx_S → Prop} (hk2 : ∀ y0 y1 y2, k2 y0 y1 y2 → k2' y0 y1 y2 → k2'' y0 y1 y2) {Q Q' Q'' : kx_S → Prop} (hQ : ∀ y0, Q y0 → Q' y0 → Q'' y0) : ∀ (l0 : Nat) (l1 : Int32) (σ : kx_S), wX11_makeJamsKnown_50 k2 Q l0 l1 σ → vX11_makeJamsKnown_50 k2' Q' l0 l1 σ → wX11_makeJamsKnown_50 k2'' Q'' l0 l1 σ := by
  intro l0 l1 σ h v
  unfold wX11_makeJamsKnown_50 at h
  unfold vX11_makeJamsKnown_50 at v
  unfold wX11_makeJamsKnown_50
  intro v1 e1
  have h := h v1 e1
  have v := v v1 e1
  exact hk2 _ _ _ h v
set_option maxRecDepth 100000 in
set_option maxHeartbeats 4000000 in
theorem jaX11_makeJamsKnown_50 {k2 k2' : Nat → Int32 → kx_S → Prop} (hk2 : ∀ y0 y1 y2, k2 y0 y1 y2 → k2' y0 y1 y2) {Q Q' : kx_S → Prop} (hQ : ∀ y0, Q y0 → Q' y0) : ∀ (l0 : Nat) (l1 : Int32) (σ : kx_S), wX11_makeJamsKnown_50 k2 Q l0 l1 σ → vX11_makeJamsKnown_50 k2' Q' l0 l1 σ := by
  intro l0 l1 σ h
  unfold wX11_makeJamsKnown_50 at h
  unfold vX11_makeJamsKnown_50
  intro v1 e1
  have h := h v1 e1
  exact hk2 _ _ _ h
set_option maxRecDepth 100000 in
set_option maxHeartbeats 4000000 in
theorem jfX11_makeJamsKnown_50 {I : kx_S → Prop} (W : fw_ I []) {k2 : Nat → Int32 → kx_S → Prop} (hk2 : ∀ y0 y1 y2, I y2 → k2 y0 y1 y2) {Q : kx_S → Prop} (hQ : ∀ y0, I y0 → Q y0) : ∀ (l0 : Nat) (l1 : Int32) (σ : kx_S), I σ → vX11_makeJamsKnown_50 k2 Q l0 l1 σ := by
  intro l0 l1 σ i
  unfold vX11_makeJamsKnown_50
  intro v1 e1
  exact hk2 _ _ _ i
def vX11_makeJamsKnown_58 (Q : kx_S → Prop) : Nat → Nat → Int32 → kx_S → Prop
  | 0, _, _, _ => True
  | n + 1, l0, l1, σ => xt σ l0 = 13 → ∀ a3, xr σ 211 l0 = some a3 → xt σ a3 = 1 → vJx4a65c_size_8abf5 a3 σ (fun r6 σ5 => ((r6 ≤ l1 → Q σ5) ∧ (¬ (r6 ≤ l1) → xt σ5 l0 = 13 → ∀ a10, xr σ5 211 l0 = some a10 → xt σ5 a10 = 1 → vJx4a65c_get_915e3 a10 l1 σ5 (fun q13 σ12 => ∀ a15, q13 = some a15 → xt σ12 a15 = 4 → ∀ a18, xr σ12 64 a15 = some a18 → xt σ12 a18 = 10 → vX8_makeJamsKnown a18 σ12 (fun σ20 => ∀ v22 : Int32, v22 = l1 + 1 → vX11_makeJamsKnown_58 Q n l0 v22 σ20)))))
set_option maxRecDepth 100000 in
set_option maxHeartbeats 4000000 in
theorem jcX11_makeJamsKnown_58 {Q Q' Q'' : kx_S → Prop} (hQ : ∀ y0, Q y0 → Q' y0 → Q'' y0) : ∀ (n : Nat) (l0 : Nat) (l1 : Int32) (σ : kx_S), wX11_makeJamsKnown_58 Q n l0 l1 σ → vX11_makeJamsKnown_58 Q' n l0 l1 σ → wX11_makeJamsKnown_58 Q'' n l0 l1 σ := by
  intro n
  induction n with
  | zero => intro l0 l1 σ h; exact h.elim
  | succ n ih =>
    intro l0 l1 σ h v
    unfold wX11_makeJamsKnown_58 at h
    unfold vX11_makeJamsKnown_58 at v
    unfold wX11_makeJamsKnown_58
    refine ⟨h.1, ?_⟩
    have v := v h.1
    have h := h.2
    obtain ⟨a3, e2, h⟩ := h
    refine ⟨a3, e2, ?_⟩
    have v := v a3 e2
    refine ⟨h.1, ?_⟩
    have v := v h.1
    have h := h.2
    refine jcJx4a65c_size_8abf5 ?_ _ _ h v
    intro r6 σ5 h v
    refine ⟨?_, ?_⟩
    · have h := h.1
      have v := v.1
      intro e4
      have h := h e4
      have v := v e4
      exact hQ _ h v
    · have h := h.2
      have v := v.2
      intro e5
      have h := h e5
      have v := v e5
      refine ⟨h.1, ?_⟩
      have v := v h.1
      have h := h.2
      obtain ⟨a10, e7, h⟩ := h
      refine ⟨a10, e7, ?_⟩
      have v := v a10 e7
      refine ⟨h.1, ?_⟩
      have v := v h.1
      have h := h.2
      refine jcJx4a65c_get_915e3 ?_ _ _ _ h v
      intro q13 σ12 h v
      obtain ⟨a15, e9, h⟩ := h
      refine ⟨a15, e9, ?_⟩
      have v := v a15 e9
      refine ⟨h.1, ?_⟩
      have v := v h.1
      have h := h.2
      obtain ⟨a18, e11, h⟩ := h
      refine ⟨a18, e11, ?_⟩
      have v := v a18 e11
      refine ⟨h.1, ?_⟩
      have v := v h.1
      have h := h.2
      refine jcX8_makeJamsKnown ?_ _ _ h v
      intro σ20 h v
      intro v22 e13
      have h := h v22 e13
      have v := v v22 e13
      exact ih _ _ _ h v
set_option maxRecDepth 100000 in
set_option maxHeartbeats 4000000 in
theorem jaX11_makeJamsKnown_58 {Q Q' : kx_S → Prop} (hQ : ∀ y0, Q y0 → Q' y0) : ∀ (n m : Nat) (l0 : Nat) (l1 : Int32) (σ : kx_S), wX11_makeJamsKnown_58 Q n l0 l1 σ → vX11_makeJamsKnown_58 Q' m l0 l1 σ := by
  intro n
  induction n with
  | zero => intro m l0 l1 σ h; exact h.elim
  | succ n ih =>
    intro m l0 l1 σ h
    cases m with
    | zero => exact trivial
    | succ m =>
      unfold wX11_makeJamsKnown_58 at h
      unfold vX11_makeJamsKnown_58
      intro e1
      have h := h.2
      obtain ⟨a3', e2, h⟩ := h
      intro a3 e3
      have x9 : a3' = a3 := Option.some.inj (e2.symm.trans e3)
      rw [x9] at h
      intro e4
      have h := h.2
      refine jaJx4a65c_size_8abf5 ?_ _ _ h
      intro r6 σ5 h
      refine ⟨?_, ?_⟩
      · have h := h.1
        intro e5
        have h := h e5
        exact hQ _ h
      · have h := h.2
        intro e6
        have h := h e6
        intro e7
        have h := h.2
        obtain ⟨a10', e8, h⟩ := h
        intro a10 e9
        have x9 : a10' = a10 := Option.some.inj (e8.symm.trans e9)
        rw [x9] at h
        intro e10
        have h := h.2
        refine jaJx4a65c_get_915e3 ?_ _ _ _ h
        intro q13 σ12 h
        obtain ⟨a15', e11, h⟩ := h
        intro a15 e12
        have x9 : a15' = a15 := Option.some.inj (e11.symm.trans e12)
        rw [x9] at h
        intro e13
        have h := h.2
        obtain ⟨a18', e14, h⟩ := h
        intro a18 e15
        have x9 : a18' = a18 := Option.some.inj (e14.symm.trans e15)
        rw [x9] at h
        intro e16
        have h := h.2
        refine jaX8_makeJamsKnown ?_ _ _ h
        intro σ20 h
        intro v22 e17
        have h := h v22 e17
        exact ih m _ _ _ h
set_option maxRecDepth 100000 in
set_option maxHeartbeats 4000000 in
theorem jfX11_makeJamsKnown_58 {I : kx_S → Prop} (W : fw_ I [51]) {Q : kx_S → Prop} (hQ : ∀ y0, I y0 → Q y0) : ∀ (n : Nat) (l0 : Nat) (l1 : Int32) (σ : kx_S), I σ → vX11_makeJamsKnown_58 Q n l0 l1 σ := by
  intro n
  induction n with
  | zero => intro l0 l1 σ i; exact trivial
  | succ n ih =>
    intro l0 l1 σ i
    unfold vX11_makeJamsKnown_58
    intro e1
    intro a3 e2
    intro e3
    refine jfJx4a65c_size_8abf5 (I := I) (fw_sub W (by decide)) ?_ _ _ i
    intro r6 σ5 iσ5
    refine ⟨?_, ?_⟩
    · intro e4
      exact hQ _ iσ5
    · intro e5
      intro e6
      intro a10 e7
      intro e8
      refine jfJx4a65c_get_915e3 (I := I) (fw_sub W (by decide)) ?_ _ _ _ iσ5
      intro q13 σ12 iσ12
      intro a15 e9
      intro e10
      intro a18 e11
      intro e12
      refine jfX8_makeJamsKnown (I := I) (fw_sub W (by decide)) ?_ _ _ iσ12
      intro σ20 iσ20
      intro v22 e13
      exact ih _ _ _ iσ20
def vX11_makeJamsKnown_56 (Q : kx_S → Prop) (l0 : Nat) (σ : kx_S) : Prop := ∀ j, vX11_makeJamsKnown_58 Q j l0 0 σ
set_option maxRecDepth 100000 in
set_option maxHeartbeats 4000000 in
theorem jcX11_makeJamsKnown_56 {Q Q' Q'' : kx_S → Prop} (hQ : ∀ y0, Q y0 → Q' y0 → Q'' y0) : ∀ (l0 : Nat) (σ : kx_S), wX11_makeJamsKnown_56 Q l0 σ → vX11_makeJamsKnown_56 Q' l0 σ → wX11_makeJamsKnown_56 Q'' l0 σ := by
  intro l0 σ h v
  unfold wX11_makeJamsKnown_56 at h
  unfold vX11_makeJamsKnown_56 at v
  unfold wX11_makeJamsKnown_56
  obtain ⟨j, h⟩ := h
  refine ⟨j, ?_⟩
  have v := v j
  exact jcX11_makeJamsKnown_58 hQ _ _ _ _ h v
set_option maxRecDepth 100000 in
set_option maxHeartbeats 4000000 in
theorem jaX11_makeJamsKnown_56 {Q Q' : kx_S → Prop} (hQ : ∀ y0, Q y0 → Q' y0) : ∀ (l0 : Nat) (σ : kx_S), wX11_makeJamsKnown_56 Q l0 σ → vX11_makeJamsKnown_56 Q' l0 σ := by
  intro l0 σ h
  unfold wX11_makeJamsKnown_56 at h
  unfold vX11_makeJamsKnown_56
  obtain ⟨j, h⟩ := h
  intro j9
  exact jaX11_makeJamsKnown_58 hQ _ j9 _ _ _ h
set_option maxRecDepth 100000 in
set_option maxHeartbeats 4000000 in
theorem jfX11_makeJamsKnown_56 {I : kx_S → Prop} (W : fw_ I [51]) {Q : kx_S → Prop} (hQ : ∀ y0, I y0 → Q y0) : ∀ (l0 : Nat) (σ : kx_S), I σ → vX11_makeJamsKnown_56 Q l0 σ := by
  intro l0 σ i
  unfold vX11_makeJamsKnown_56
  intro j
  exact jfX11_makeJamsKnown_58 (I := I) (fw_sub W (by decide)) hQ _ _ _ _ i
def vX11_makeJamsKnown_2 (k56 : Nat → kx_S → Prop) (Q : kx_S → Prop) : Nat → Nat → Int32 → kx_S → Prop
  | 0, _, _, _ => True
  | n + 1, l0, l1, σ => xt σ l0 = 13 → ∀ a25, xr σ 208 l0 = some a25 → xt σ a25 = 1 → vJx4a65c_size_8abf5 a25 σ (fun r28 σ27 => ((r28 ≤ l1 → k56 l0 σ27) ∧ (¬ (r28 ≤ l1) → xt σ27 l0 = 13 → ∀ a32, xr σ27 208 l0 = some a32 → xt σ27 a32 = 1 → vJx4a65c_get_915e3 a32 l1 σ27 (fun q35 σ34 => ∀ a37, q35 = some a37 → xt σ34 a37 = 10 → (((xi σ34 171 a37) = 0 → vX11_makeJamsKnown_50 (vX11_makeJamsKnown_2 k56 Q n) Q l0 l1 σ34) ∧ (¬ ((xi σ34 171 a37) = 0) → xt σ34 l0 = 13 → ∀ a42, xr σ34 208 l0 = some a42 → xt σ34 a42 = 1 → vJx4a65c_get_915e3 a42 l1 σ34 (fun q45 σ44 => ∀ a47, q45 = some a47 → xt σ44 a47 = 10 → vX8_makeJamsKnown a47 σ44 (fun σ50 => vX11_makeJamsKnown_50 (vX11_makeJamsKnown_2 k56 Q n) Q l0 l1 σ50))))))))
set_option maxRecDepth 100000 in
set_option maxHeartbeats 4000000 in
theorem jcX11_makeJamsKnown_2 {k56 k56' k56'' : Nat → kx_S → Prop} (hk56 : ∀ y0 y1, k56 y0 y1 → k56' y0 y1 → k56'' y0 y1) {Q Q' Q'' : kx_S → Prop} (hQ : ∀ y0, Q y0 → Q' y0 → Q'' y0) : ∀ (n : Nat) (l0 : Nat) (l1 : Int32) (σ : kx_S), wX11_makeJamsKnown_2 k56 Q n l0 l1 σ → vX11_makeJamsKnown_2 k56' Q' n l0 l1 σ → wX11_makeJamsKnown_2 k56'' Q'' n l0 l1 σ := by
  intro n
  induction n with
  | zero => intro l0 l1 σ h; exact h.elim
  | succ n ih =>
    intro l0 l1 σ h v
    unfold wX11_makeJamsKnown_2 at h
    unfold vX11_makeJamsKnown_2 at v
    unfold wX11_makeJamsKnown_2
    refine ⟨h.1, ?_⟩
    have v := v h.1
    have h := h.2
    obtain ⟨a25, e2, h⟩ := h
    refine ⟨a25, e2, ?_⟩
    have v := v a25 e2
    refine ⟨h.1, ?_⟩
    have v := v h.1
    have h := h.2
    refine jcJx4a65c_size_8abf5 ?_ _ _ h v
    intro r28 σ27 h v
    refine ⟨?_, ?_⟩
    · have h := h.1
      have v := v.1
      intro e4
      have h := h e4
      have v := v e4
      exact hk56 _ _ h v
    · have h := h.2
      have v := v.2
      intro e5
      have h := h e5
      have v := v e5
      refine ⟨h.1, ?_⟩
      have v := v h.1
      have h := h.2
      obtain ⟨a32, e7, h⟩ := h
      refine ⟨a32, e7, ?_⟩
      have v := v a32 e7
      refine ⟨h.1, ?_⟩
      have v := v h.1
      have h := h.2
      refine jcJx4a65c_get_915e3 ?_ _ _ _ h v
      intro q35 σ34 h v
      obtain ⟨a37, e9, h⟩ := h
      refine ⟨a37, e9, ?_⟩
      have v := v a37 e9
      refine ⟨h.1, ?_⟩
      have v := v h.1
      have h := h.2
      refine ⟨?_, ?_⟩
      · have h := h.1
        have v := v.1
        intro e11
        have h := h e11
        have v := v e11
        exact jcX11_makeJamsKnown_50 (k2 := wX11_makeJamsKnown_2 k56 Q n) (k2' := vX11_makeJamsKnown_2 k56' Q' n) (k2'' := wX11_makeJamsKnown_2 k56'' Q'' n) (fun _ _ _ h v => ih _ _ _ h v) hQ _ _ _ h v
      · have h := h.2
        have v := v.2
        intro e12
        have h := h e12
        have v := v e12
        refine ⟨h.1, ?_⟩
        have v := v h.1
        have h := h.2
        obtain ⟨a42, e14, h⟩ := h
        refine ⟨a42, e14, ?_⟩
        have v := v a42 e14
        refine ⟨h.1, ?_⟩
        have v := v h.1
        have h := h.2
        refine jcJx4a65c_get_915e3 ?_ _ _ _ h v
        intro q45 σ44 h v
        obtain ⟨a47, e16, h⟩ := h
        refine ⟨a47, e16, ?_⟩
        have v := v a47 e16
        refine ⟨h.1, ?_⟩
        have v := v h.1
        have h := h.2
        refine jcX8_makeJamsKnown ?_ _ _ h v
        intro σ50 h v
        exact jcX11_makeJamsKnown_50 (k2 := wX11_makeJamsKnown_2 k56 Q n) (k2' := vX11_makeJamsKnown_2 k56' Q' n) (k2'' := wX11_makeJamsKnown_2 k56'' Q'' n) (fun _ _ _ h v => ih _ _ _ h v) hQ _ _ _ h v
set_option maxRecDepth 100000 in
set_option maxHeartbeats 4000000 in
theorem jaX11_makeJamsKnown_2 {k56 k56' : Nat → kx_S → Prop} (hk56 : ∀ y0 y1, k56 y0 y1 → k56' y0 y1) {Q Q' : kx_S → Prop} (hQ : ∀ y0, Q y0 → Q' y0) : ∀ (n m : Nat) (l0 : Nat) (l1 : Int32) (σ : kx_S), wX11_makeJamsKnown_2 k56 Q n l0 l1 σ → vX11_makeJamsKnown_2 k56' Q' m l0 l1 σ := by
  intro n
  induction n with
  | zero => intro m l0 l1 σ h; exact h.elim
  | succ n ih =>
    intro m l0 l1 σ h
    cases m with
    | zero => exact trivial
    | succ m =>
      unfold wX11_makeJamsKnown_2 at h
      unfold vX11_makeJamsKnown_2
      intro e1
      have h := h.2
      obtain ⟨a25', e2, h⟩ := h
      intro a25 e3
      have x9 : a25' = a25 := Option.some.inj (e2.symm.trans e3)
      rw [x9] at h
      intro e4
      have h := h.2
      refine jaJx4a65c_size_8abf5 ?_ _ _ h
      intro r28 σ27 h
      refine ⟨?_, ?_⟩
      · have h := h.1
        intro e5
        have h := h e5
        exact hk56 _ _ h
      · have h := h.2
        intro e6
        have h := h e6
        intro e7
        have h := h.2
        obtain ⟨a32', e8, h⟩ := h
        intro a32 e9
        have x9 : a32' = a32 := Option.some.inj (e8.symm.trans e9)
        rw [x9] at h
        intro e10
        have h := h.2
        refine jaJx4a65c_get_915e3 ?_ _ _ _ h
        intro q35 σ34 h
        obtain ⟨a37', e11, h⟩ := h
        intro a37 e12
        have x9 : a37' = a37 := Option.some.inj (e11.symm.trans e12)
        rw [x9] at h
        intro e13
        have h := h.2
        refine ⟨?_, ?_⟩
        · have h := h.1
          intro e14
          have h := h e14
          exact jaX11_makeJamsKnown_50 (k2 := wX11_makeJamsKnown_2 k56 Q n) (k2' := vX11_makeJamsKnown_2 k56' Q' m) (fun _ _ _ h => ih m _ _ _ h) hQ _ _ _ h
        · have h := h.2
          intro e15
          have h := h e15
          intro e16
          have h := h.2
          obtain ⟨a42', e17, h⟩ := h
          intro a42 e18
          have x9 : a42' = a42 := Option.some.inj (e17.symm.trans e18)
          rw [x9] at h
          intro e19
          have h := h.2
          refine jaJx4a65c_get_915e3 ?_ _ _ _ h
          intro q45 σ44 h
          obtain ⟨a47', e20, h⟩ := h
          intro a47 e21
          have x9 : a47' = a47 := Option.some.inj (e20.symm.trans e21)
          rw [x9] at h
          intro e22
          have h := h.2
          refine jaX8_makeJamsKnown ?_ _ _ h
          intro σ50 h
          exact jaX11_makeJamsKnown_50 (k2 := wX11_makeJamsKnown_2 k56 Q n) (k2' := vX11_makeJamsKnown_2 k56' Q' m) (fun _ _ _ h => ih m _ _ _ h) hQ _ _ _ h
set_option maxRecDepth 100000 in
set_option maxHeartbeats 4000000 in
theorem jfX11_makeJamsKnown_2 {I : kx_S → Prop} (W : fw_ I [51]) {k56 : Nat → kx_S → Prop} (hk56 : ∀ y0 y1, I y1 → k56 y0 y1) {Q : kx_S → Prop} (hQ : ∀ y0, I y0 → Q y0) : ∀ (n : Nat) (l0 : Nat) (l1 : Int32) (σ : kx_S), I σ → vX11_makeJamsKnown_2 k56 Q n l0 l1 σ := by
  intro n
  induction n with
  | zero => intro l0 l1 σ i; exact trivial
  | succ n ih =>
    intro l0 l1 σ i
    unfold vX11_makeJamsKnown_2
    intro e1
    intro a25 e2
    intro e3
    refine jfJx4a65c_size_8abf5 (I := I) (fw_sub W (by decide)) ?_ _ _ i
    intro r28 σ27 iσ27
    refine ⟨?_, ?_⟩
    · intro e4
      exact hk56 _ _ iσ27
    · intro e5
      intro e6
      intro a32 e7
      intro e8
      refine jfJx4a65c_get_915e3 (I := I) (fw_sub W (by decide)) ?_ _ _ _ iσ27
      intro q35 σ34 iσ34
      intro a37 e9
      intro e10
      refine ⟨?_, ?_⟩
      · intro e11
        exact jfX11_makeJamsKnown_50 (I := I) (fw_sub W (by decide)) (k2 := vX11_makeJamsKnown_2 k56 Q n) (fun _ _ _ i => ih _ _ _ i) hQ _ _ _ iσ34
      · intro e12
        intro e13
        intro a42 e14
        intro e15
        refine jfJx4a65c_get_915e3 (I := I) (fw_sub W (by decide)) ?_ _ _ _ iσ34
        intro q45 σ44 iσ44
        intro a47 e16
        intro e17
        refine jfX8_makeJamsKnown (I := I) (fw_sub W (by decide)) ?_ _ _ iσ44
        intro σ50 iσ50
        exact jfX11_makeJamsKnown_50 (I := I) (fw_sub W (by decide)) (k2 := vX11_makeJamsKnown_2 k56 Q n) (fun _ _ _ i => ih _ _ _ i) hQ _ _ _ iσ50
def vX11_makeJamsKnown (l0 : Nat) (σ : kx_S) (Q : kx_S → Prop) : Prop := ∀ j, vX11_makeJamsKnown_2 (vX11_makeJamsKnown_56 Q) Q j l0 0 σ
set_option maxRecDepth 100000 in
set_option maxHeartbeats 4000000 in
theorem jcX11_makeJamsKnown {Q Q' Q'' : kx_S → Prop} (hQ : ∀ y0, Q y0 → Q' y0 → Q'' y0) : ∀ (l0 : Nat) (σ : kx_S), wX11_makeJamsKnown l0 σ Q → vX11_makeJamsKnown l0 σ Q' → wX11_makeJamsKnown l0 σ Q'' := by
  intro l0 σ h v
  unfold wX11_makeJamsKnown at h
  unfold vX11_makeJamsKnown at v
  unfold wX11_makeJamsKnown
  obtain ⟨j, h⟩ := h
  refine ⟨j, ?_⟩
  have v := v j
  exact jcX11_makeJamsKnown_2 (k56 := wX11_makeJamsKnown_56 Q) (k56' := vX11_makeJamsKnown_56 Q') (k56'' := wX11_makeJamsKnown_56 Q'') (fun _ _ h v => jcX11_makeJamsKnown_56 hQ _ _ h v) hQ _ _ _ _ h v
set_option maxRecDepth 100000 in
set_option maxHeartbeats 4000000 in
theorem jaX11_makeJamsKnown {Q Q' : kx_S → Prop} (hQ : ∀ y0, Q y0 → Q' y0) : ∀ (l0 : Nat) (σ : kx_S), wX11_makeJamsKnown l0 σ Q → vX11_makeJamsKnown l0 σ Q' := by
  intro l0 σ h
  unfold wX11_makeJamsKnown at h
  unfold vX11_makeJamsKnown
  obtain ⟨j, h⟩ := h
  intro j9
  exact jaX11_makeJamsKnown_2 (k56 := wX11_makeJamsKnown_56 Q) (k56' := vX11_makeJamsKnown_56 Q') (fun _ _ h => jaX11_makeJamsKnown_56 hQ _ _ h) hQ _ j9 _ _ _ h
set_option maxRecDepth 100000 in
set_option maxHeartbeats 4000000 in
theorem jfX11_makeJamsKnown {I : kx_S → Prop} (W : fw_ I [51]) {Q : kx_S → Prop} (hQ : ∀ y0, I y0 → Q y0) : ∀ (l0 : Nat) (σ : kx_S), I σ → vX11_makeJamsKnown l0 σ Q := by
  intro l0 σ i
  unfold vX11_makeJamsKnown
  intro j
  exact jfX11_makeJamsKnown_2 (I := I) (fw_sub W (by decide)) (k56 := vX11_makeJamsKnown_56 Q) (fun _ _ i => jfX11_makeJamsKnown_56 (I := I) (fw_sub W (by decide)) hQ _ _ i) hQ _ _ _ _ i
def vX11_ageLogs_66 (k2 : Nat → Int32 → kx_S → Prop) (Q : kx_S → Prop) (l0 : Nat) (l1 : Int32) (σ : kx_S) : Prop := ∀ v1 : Int32, v1 = l1 + 1 → k2 l0 v1 σ
set_option maxRecDepth 100000 in
set_option maxHeartbeats 4000000 in
theorem jcX11_ageLogs_66 {k2 k2' k2'' : Nat → Int32 → kx_S → Prop} (hk2 : ∀ y0 y1 y2, k2 y0 y1 y2 → k2' y0 y1 y2 → k2'' y0 y1 y2) {Q Q' Q'' : kx_S → Prop} (hQ : ∀ y0, Q y0 → Q' y0 → Q'' y0) : ∀ (l0 : Nat) (l1 : Int32) (σ : kx_S), wX11_ageLogs_66 k2 Q l0 l1 σ → vX11_ageLogs_66 k2' Q' l0 l1 σ → wX11_ageLogs_66 k2'' Q'' l0 l1 σ := by
  intro l0 l1 σ h v
  unfold wX11_ageLogs_66 at h
  unfold vX11_ageLogs_66 at v
  unfold wX11_ageLogs_66
  intro v1 e1
  have h := h v1 e1
  have v := v v1 e1
  exact hk2 _ _ _ h v
set_option maxRecDepth 100000 in
set_option maxHeartbeats 4000000 in
theorem jaX11_ageLogs_66 {k2 k2' : Nat → Int32 → kx_S → Prop} (hk2 : ∀ y0 y1 y2, k2 y0 y1 y2 → k2' y0 y1 y2) {Q Q' : kx_S → Prop} (hQ : ∀ y0, Q y0 → Q' y0) : ∀ (l0 : Nat) (l1 : Int32) (σ : kx_S), wX11_ageLogs_66 k2 Q l0 l1 σ → vX11_ageLogs_66 k2' Q' l0 l1 σ := by
  intro l0 l1 σ h
  unfold wX11_ageLogs_66 at h
  unfold vX11_ageLogs_66
  intro v1 e1
  have h := h v1 e1
  exact hk2 _ _ _ h
set_option maxRecDepth 100000 in
set_option maxHeartbeats 4000000 in
theorem jfX11_ageLogs_66 {I : kx_S → Prop} (W : fw_ I []) {k2 : Nat → Int32 → kx_S → Prop} (hk2 : ∀ y0 y1 y2, I y2 → k2 y0 y1 y2) {Q : kx_S → Prop} (hQ : ∀ y0, I y0 → Q y0) : ∀ (l0 : Nat) (l1 : Int32) (σ : kx_S), I σ → vX11_ageLogs_66 k2 Q l0 l1 σ := by
  intro l0 l1 σ i
  unfold vX11_ageLogs_66
  intro v1 e1
  exact hk2 _ _ _ i
def vX11_ageLogs_31 (k66 : Nat → Int32 → kx_S → Prop) (Q : kx_S → Prop) : Nat → Nat → Int32 → Nat → Int32 → kx_S → Prop
  | 0, _, _, _, _, _ => True
  | n + 1, l0, l1, l2, l3, σ => xt σ l2 = 10 → ∀ a3, xr σ 163 l2 = some a3 → xt σ a3 = 1 → vJx4a65c_size_8abf5 a3 σ (fun r6 σ5 => ((r6 ≤ l3 → k66 l0 l1 σ5) ∧ (¬ (r6 ≤ l3) → xt σ5 l2 = 10 → ∀ a10, xr σ5 163 l2 = some a10 → xt σ5 a10 = 1 → vJx4a65c_get_915e3 a10 l3 σ5 (fun q13 σ12 => ∀ a15, q13 = some a15 → xt σ12 a15 = 3 → vX1_ageLogs a15 σ12 (fun σ18 => ∀ v19 : Int32, v19 = l3 + 1 → vX11_ageLogs_31 k66 Q n l0 l1 l2 v19 σ18)))))
set_option maxRecDepth 100000 in
set_option maxHeartbeats 4000000 in
theorem jcX11_ageLogs_31 {k66 k66' k66'' : Nat → Int32 → kx_S → Prop} (hk66 : ∀ y0 y1 y2, k66 y0 y1 y2 → k66' y0 y1 y2 → k66'' y0 y1 y2) {Q Q' Q'' : kx_S → Prop} (hQ : ∀ y0, Q y0 → Q' y0 → Q'' y0) : ∀ (n : Nat) (l0 : Nat) (l1 : Int32) (l2 : Nat) (l3 : Int32) (σ : kx_S), wX11_ageLogs_31 k66 Q n l0 l1 l2 l3 σ → vX11_ageLogs_31 k66' Q' n l0 l1 l2 l3 σ → wX11_ageLogs_31 k66'' Q'' n l0 l1 l2 l3 σ := by
  intro n
  induction n with
  | zero => intro l0 l1 l2 l3 σ h; exact h.elim
  | succ n ih =>
    intro l0 l1 l2 l3 σ h v
    unfold wX11_ageLogs_31 at h
    unfold vX11_ageLogs_31 at v
    unfold wX11_ageLogs_31
    refine ⟨h.1, ?_⟩
    have v := v h.1
    have h := h.2
    obtain ⟨a3, e2, h⟩ := h
    refine ⟨a3, e2, ?_⟩
    have v := v a3 e2
    refine ⟨h.1, ?_⟩
    have v := v h.1
    have h := h.2
    refine jcJx4a65c_size_8abf5 ?_ _ _ h v
    intro r6 σ5 h v
    refine ⟨?_, ?_⟩
    · have h := h.1
      have v := v.1
      intro e4
      have h := h e4
      have v := v e4
      exact hk66 _ _ _ h v
    · have h := h.2
      have v := v.2
      intro e5
      have h := h e5
      have v := v e5
      refine ⟨h.1, ?_⟩
      have v := v h.1
      have h := h.2
      obtain ⟨a10, e7, h⟩ := h
      refine ⟨a10, e7, ?_⟩
      have v := v a10 e7
      refine ⟨h.1, ?_⟩
      have v := v h.1
      have h := h.2
      refine jcJx4a65c_get_915e3 ?_ _ _ _ h v
      intro q13 σ12 h v
      obtain ⟨a15, e9, h⟩ := h
      refine ⟨a15, e9, ?_⟩
      have v := v a15 e9
      refine ⟨h.1, ?_⟩
      have v := v h.1
      have h := h.2
      refine jcX1_ageLogs ?_ _ _ h v
      intro σ18 h v
      intro v19 e11
      have h := h v19 e11
      have v := v v19 e11
      exact ih _ _ _ _ _ h v
set_option maxRecDepth 100000 in
set_option maxHeartbeats 4000000 in
theorem jaX11_ageLogs_31 {k66 k66' : Nat → Int32 → kx_S → Prop} (hk66 : ∀ y0 y1 y2, k66 y0 y1 y2 → k66' y0 y1 y2) {Q Q' : kx_S → Prop} (hQ : ∀ y0, Q y0 → Q' y0) : ∀ (n m : Nat) (l0 : Nat) (l1 : Int32) (l2 : Nat) (l3 : Int32) (σ : kx_S), wX11_ageLogs_31 k66 Q n l0 l1 l2 l3 σ → vX11_ageLogs_31 k66' Q' m l0 l1 l2 l3 σ := by
  intro n
  induction n with
  | zero => intro m l0 l1 l2 l3 σ h; exact h.elim
  | succ n ih =>
    intro m l0 l1 l2 l3 σ h
    cases m with
    | zero => exact trivial
    | succ m =>
      unfold wX11_ageLogs_31 at h
      unfold vX11_ageLogs_31
      intro e1
      have h := h.2
      obtain ⟨a3', e2, h⟩ := h
      intro a3 e3
      have x9 : a3' = a3 := Option.some.inj (e2.symm.trans e3)
      rw [x9] at h
      intro e4
      have h := h.2
      refine jaJx4a65c_size_8abf5 ?_ _ _ h
      intro r6 σ5 h
      refine ⟨?_, ?_⟩
      · have h := h.1
        intro e5
        have h := h e5
        exact hk66 _ _ _ h
      · have h := h.2
        intro e6
        have h := h e6
        intro e7
        have h := h.2
        obtain ⟨a10', e8, h⟩ := h
        intro a10 e9
        have x9 : a10' = a10 := Option.some.inj (e8.symm.trans e9)
        rw [x9] at h
        intro e10
        have h := h.2
        refine jaJx4a65c_get_915e3 ?_ _ _ _ h
        intro q13 σ12 h
        obtain ⟨a15', e11, h⟩ := h
        intro a15 e12
        have x9 : a15' = a15 := Option.some.inj (e11.symm.trans e12)
        rw [x9] at h
        intro e13
        have h := h.2
        refine jaX1_ageLogs ?_ _ _ h
        intro σ18 h
        intro v19 e14
        have h := h v19 e14
        exact ih m _ _ _ _ _ h
set_option maxRecDepth 100000 in
set_option maxHeartbeats 4000000 in
theorem jfX11_ageLogs_31 {I : kx_S → Prop} (W : fw_ I [16, 18, 132, 135, 1003]) {k66 : Nat → Int32 → kx_S → Prop} (hk66 : ∀ y0 y1 y2, I y2 → k66 y0 y1 y2) {Q : kx_S → Prop} (hQ : ∀ y0, I y0 → Q y0) : ∀ (n : Nat) (l0 : Nat) (l1 : Int32) (l2 : Nat) (l3 : Int32) (σ : kx_S), I σ → vX11_ageLogs_31 k66 Q n l0 l1 l2 l3 σ := by
  intro n
  induction n with
  | zero => intro l0 l1 l2 l3 σ i; exact trivial
  | succ n ih =>
    intro l0 l1 l2 l3 σ i
    unfold vX11_ageLogs_31
    intro e1
    intro a3 e2
    intro e3
    refine jfJx4a65c_size_8abf5 (I := I) (fw_sub W (by decide)) ?_ _ _ i
    intro r6 σ5 iσ5
    refine ⟨?_, ?_⟩
    · intro e4
      exact hk66 _ _ _ iσ5
    · intro e5
      intro e6
      intro a10 e7
      intro e8
      refine jfJx4a65c_get_915e3 (I := I) (fw_sub W (by decide)) ?_ _ _ _ iσ5
      intro q13 σ12 iσ12
      intro a15 e9
      intro e10
      refine jfX1_ageLogs (I := I) (fw_sub W (by decide)) ?_ _ _ iσ12
      intro σ18 iσ18
      intro v19 e11
      exact ih _ _ _ _ _ iσ18
def vX11_ageLogs_2 (Q : kx_S → Prop) : Nat → Nat → Int32 → kx_S → Prop
  | 0, _, _, _ => True
  | n + 1, l0, l1, σ => xt σ l0 = 13 → ∀ a21, xr σ 208 l0 = some a21 → xt σ a21 = 1 → vJx4a65c_size_8abf5 a21 σ (fun r24 σ23 => ((r24 ≤ l1 → Q σ23) ∧ (¬ (r24 ≤ l1) → xt σ23 l0 = 13 → ∀ a28, xr σ23 208 l0 = some a28 → xt σ23 a28 = 1 → vJx4a65c_get_915e3 a28 l1 σ23 (fun q31 σ30 => ∀ a33, q31 = some a33 → xt σ30 a33 = 10 → ∀ j, vX11_ageLogs_31 (vX11_ageLogs_66 (vX11_ageLogs_2 Q n) Q) Q j l0 l1 a33 0 σ30))))
set_option maxRecDepth 100000 in
set_option maxHeartbeats 4000000 in
theorem jcX11_ageLogs_2 {Q Q' Q'' : kx_S → Prop} (hQ : ∀ y0, Q y0 → Q' y0 → Q'' y0) : ∀ (n : Nat) (l0 : Nat) (l1 : Int32) (σ : kx_S), wX11_ageLogs_2 Q n l0 l1 σ → vX11_ageLogs_2 Q' n l0 l1 σ → wX11_ageLogs_2 Q'' n l0 l1 σ := by
  intro n
  induction n with
  | zero => intro l0 l1 σ h; exact h.elim
  | succ n ih =>
    intro l0 l1 σ h v
    unfold wX11_ageLogs_2 at h
    unfold vX11_ageLogs_2 at v
    unfold wX11_ageLogs_2
    refine ⟨h.1, ?_⟩
    have v := v h.1
    have h := h.2
    obtain ⟨a21, e2, h⟩ := h
    refine ⟨a21, e2, ?_⟩
    have v := v a21 e2
    refine ⟨h.1, ?_⟩
    have v := v h.1
    have h := h.2
    refine jcJx4a65c_size_8abf5 ?_ _ _ h v
    intro r24 σ23 h v
    refine ⟨?_, ?_⟩
    · have h := h.1
      have v := v.1
      intro e4
      have h := h e4
      have v := v e4
      exact hQ _ h v
    · have h := h.2
      have v := v.2
      intro e5
      have h := h e5
      have v := v e5
      refine ⟨h.1, ?_⟩
      have v := v h.1
      have h := h.2
      obtain ⟨a28, e7, h⟩ := h
      refine ⟨a28, e7, ?_⟩
      have v := v a28 e7
      refine ⟨h.1, ?_⟩
      have v := v h.1
      have h := h.2
      refine jcJx4a65c_get_915e3 ?_ _ _ _ h v
      intro q31 σ30 h v
      obtain ⟨a33, e9, h⟩ := h
      refine ⟨a33, e9, ?_⟩
      have v := v a33 e9
      refine ⟨h.1, ?_⟩
      have v := v h.1
      have h := h.2
      obtain ⟨j, h⟩ := h
      refine ⟨j, ?_⟩
      have v := v j
      exact jcX11_ageLogs_31 (k66 := wX11_ageLogs_66 (wX11_ageLogs_2 Q n) Q) (k66' := vX11_ageLogs_66 (vX11_ageLogs_2 Q' n) Q') (k66'' := wX11_ageLogs_66 (wX11_ageLogs_2 Q'' n) Q'') (fun _ _ _ h v => jcX11_ageLogs_66 (k2 := wX11_ageLogs_2 Q n) (k2' := vX11_ageLogs_2 Q' n) (k2'' := wX11_ageLogs_2 Q'' n) (fun _ _ _ h v => ih _ _ _ h v) hQ _ _ _ h v) hQ _ _ _ _ _ _ h v
set_option maxRecDepth 100000 in
set_option maxHeartbeats 4000000 in
theorem jaX11_ageLogs_2 {Q Q' : kx_S → Prop} (hQ : ∀ y0, Q y0 → Q' y0) : ∀ (n m : Nat) (l0 : Nat) (l1 : Int32) (σ : kx_S), wX11_ageLogs_2 Q n l0 l1 σ → vX11_ageLogs_2 Q' m l0 l1 σ := by
  intro n
  induction n with
  | zero => intro m l0 l1 σ h; exact h.elim
  | succ n ih =>
    intro m l0 l1 σ h
    cases m with
    | zero => exact trivial
    | succ m =>
      unfold wX11_ageLogs_2 at h
      unfold vX11_ageLogs_2
      intro e1
      have h := h.2
      obtain ⟨a21', e2, h⟩ := h
      intro a21 e3
      have x9 : a21' = a21 := Option.some.inj (e2.symm.trans e3)
      rw [x9] at h
      intro e4
      have h := h.2
      refine jaJx4a65c_size_8abf5 ?_ _ _ h
      intro r24 σ23 h
      refine ⟨?_, ?_⟩
      · have h := h.1
        intro e5
        have h := h e5
        exact hQ _ h
      · have h := h.2
        intro e6
        have h := h e6
        intro e7
        have h := h.2
        obtain ⟨a28', e8, h⟩ := h
        intro a28 e9
        have x9 : a28' = a28 := Option.some.inj (e8.symm.trans e9)
        rw [x9] at h
        intro e10
        have h := h.2
        refine jaJx4a65c_get_915e3 ?_ _ _ _ h
        intro q31 σ30 h
        obtain ⟨a33', e11, h⟩ := h
        intro a33 e12
        have x9 : a33' = a33 := Option.some.inj (e11.symm.trans e12)
        rw [x9] at h
        intro e13
        have h := h.2
        obtain ⟨j, h⟩ := h
        intro j9
        exact jaX11_ageLogs_31 (k66 := wX11_ageLogs_66 (wX11_ageLogs_2 Q n) Q) (k66' := vX11_ageLogs_66 (vX11_ageLogs_2 Q' m) Q') (fun _ _ _ h => jaX11_ageLogs_66 (k2 := wX11_ageLogs_2 Q n) (k2' := vX11_ageLogs_2 Q' m) (fun _ _ _ h => ih m _ _ _ h) hQ _ _ _ h) hQ _ j9 _ _ _ _ _ h
set_option maxRecDepth 100000 in
set_option maxHeartbeats 4000000 in
theorem jfX11_ageLogs_2 {I : kx_S → Prop} (W : fw_ I [16, 18, 132, 135, 1003]) {Q : kx_S → Prop} (hQ : ∀ y0, I y0 → Q y0) : ∀ (n : Nat) (l0 : Nat) (l1 : Int32) (σ : kx_S), I σ → vX11_ageLogs_2 Q n l0 l1 σ := by
  intro n
  induction n with
  | zero => intro l0 l1 σ i; exact trivial
  | succ n ih =>
    intro l0 l1 σ i
    unfold vX11_ageLogs_2
    intro e1
    intro a21 e2
    intro e3
    refine jfJx4a65c_size_8abf5 (I := I) (fw_sub W (by decide)) ?_ _ _ i
    intro r24 σ23 iσ23
    refine ⟨?_, ?_⟩
    · intro e4
      exact hQ _ iσ23
    · intro e5
      intro e6
      intro a28 e7
      intro e8
      refine jfJx4a65c_get_915e3 (I := I) (fw_sub W (by decide)) ?_ _ _ _ iσ23
      intro q31 σ30 iσ30
      intro a33 e9
      intro e10
      intro j
      exact jfX11_ageLogs_31 (I := I) (fw_sub W (by decide)) (k66 := vX11_ageLogs_66 (vX11_ageLogs_2 Q n) Q) (fun _ _ _ i => jfX11_ageLogs_66 (I := I) (fw_sub W (by decide)) (k2 := vX11_ageLogs_2 Q n) (fun _ _ _ i => ih _ _ _ i) hQ _ _ _ i) hQ _ _ _ _ _ _ iσ30
def vX11_ageLogs (l0 : Nat) (σ : kx_S) (Q : kx_S → Prop) : Prop := ∀ j, vX11_ageLogs_2 Q j l0 0 σ
set_option maxRecDepth 100000 in
set_option maxHeartbeats 4000000 in
theorem jcX11_ageLogs {Q Q' Q'' : kx_S → Prop} (hQ : ∀ y0, Q y0 → Q' y0 → Q'' y0) : ∀ (l0 : Nat) (σ : kx_S), wX11_ageLogs l0 σ Q → vX11_ageLogs l0 σ Q' → wX11_ageLogs l0 σ Q'' := by
  intro l0 σ h v
  unfold wX11_ageLogs at h
  unfold vX11_ageLogs at v
  unfold wX11_ageLogs
  obtain ⟨j, h⟩ := h
  refine ⟨j, ?_⟩
  have v := v j
  exact jcX11_ageLogs_2 hQ _ _ _ _ h v
set_option maxRecDepth 100000 in
set_option maxHeartbeats 4000000 in
theorem jaX11_ageLogs {Q Q' : kx_S → Prop} (hQ : ∀ y0, Q y0 → Q' y0) : ∀ (l0 : Nat) (σ : kx_S), wX11_ageLogs l0 σ Q → vX11_ageLogs l0 σ Q' := by
  intro l0 σ h
  unfold wX11_ageLogs at h
  unfold vX11_ageLogs
  obtain ⟨j, h⟩ := h
  intro j9
  exact jaX11_ageLogs_2 hQ _ j9 _ _ _ h
set_option maxRecDepth 100000 in
set_option maxHeartbeats 4000000 in
theorem jfX11_ageLogs {I : kx_S → Prop} (W : fw_ I [16, 18, 132, 135, 1003]) {Q : kx_S → Prop} (hQ : ∀ y0, I y0 → Q y0) : ∀ (l0 : Nat) (σ : kx_S), I σ → vX11_ageLogs l0 σ Q := by
  intro l0 σ i
  unfold vX11_ageLogs
  intro j
  exact jfX11_ageLogs_2 (I := I) (fw_sub W (by decide)) hQ _ _ _ _ i
def vX11_sawFor_25 (k3 : Nat → Nat → Nat → Int32 → Int32 → kx_S → Prop) (Q : Int32 → kx_S → Prop) (l0 : Nat) (l1 : Nat) (l2 : Nat) (l3 : Int32) (l4 : Int32) (s0 : Option Nat) (σ : kx_S) : Prop := ((∀ a2, s0 = some a2 → xt σ l0 = 13 → xt σ a2 = 8 → vX6_becomeBoards a2 (xi σ 218 l0) σ (fun σ4 => xt σ4 l0 = 13 → xt σ4 a2 = 8 → ∀ σ8, σ8 = xsi σ4 218 l0 ((xi σ4 218 l0) + (xi σ4 130 a2)) → xt σ8 l1 = 9 → ∀ σ12, σ12 = xsi σ8 146 l1 ((xi σ8 146 l1) - 1) → ∀ v16 : Int32, v16 = l4 + 1 → k3 l0 l1 l2 l3 v16 σ12)) ∧ (s0 = none → Q l4 σ))
set_option maxRecDepth 100000 in
set_option maxHeartbeats 4000000 in
theorem jcX11_sawFor_25 {k3 k3' k3'' : Nat → Nat → Nat → Int32 → Int32 → kx_S → Prop} (hk3 : ∀ y0 y1 y2 y3 y4 y5, k3 y0 y1 y2 y3 y4 y5 → k3' y0 y1 y2 y3 y4 y5 → k3'' y0 y1 y2 y3 y4 y5) {Q Q' Q'' : Int32 → kx_S → Prop} (hQ : ∀ y0 y1, Q y0 y1 → Q' y0 y1 → Q'' y0 y1) : ∀ (l0 : Nat) (l1 : Nat) (l2 : Nat) (l3 : Int32) (l4 : Int32) (s0 : Option Nat) (σ : kx_S), wX11_sawFor_25 k3 Q l0 l1 l2 l3 l4 s0 σ → vX11_sawFor_25 k3' Q' l0 l1 l2 l3 l4 s0 σ → wX11_sawFor_25 k3'' Q'' l0 l1 l2 l3 l4 s0 σ := by
  intro l0 l1 l2 l3 l4 s0 σ h v
  unfold wX11_sawFor_25 at h
  unfold vX11_sawFor_25 at v
  unfold wX11_sawFor_25
  refine ⟨?_, ?_⟩
  · have h := h.1
    have v := v.1
    intro a2 e1
    have h := h a2 e1
    have v := v a2 e1
    refine ⟨h.1, ?_⟩
    have v := v h.1
    have h := h.2
    refine ⟨h.1, ?_⟩
    have v := v h.1
    have h := h.2
    refine jcX6_becomeBoards ?_ _ _ _ h v
    intro σ4 h v
    refine ⟨h.1, ?_⟩
    have v := v h.1
    have h := h.2
    refine ⟨h.1, ?_⟩
    have v := v h.1
    have h := h.2
    intro σ8 e6
    have h := h σ8 e6
    have v := v σ8 e6
    refine ⟨h.1, ?_⟩
    have v := v h.1
    have h := h.2
    intro σ12 e8
    have h := h σ12 e8
    have v := v σ12 e8
    intro v16 e9
    have h := h v16 e9
    have v := v v16 e9
    exact hk3 _ _ _ _ _ _ h v
  · have h := h.2
    have v := v.2
    intro e10
    have h := h e10
    have v := v e10
    exact hQ _ _ h v
set_option maxRecDepth 100000 in
set_option maxHeartbeats 4000000 in
theorem jaX11_sawFor_25 {k3 k3' : Nat → Nat → Nat → Int32 → Int32 → kx_S → Prop} (hk3 : ∀ y0 y1 y2 y3 y4 y5, k3 y0 y1 y2 y3 y4 y5 → k3' y0 y1 y2 y3 y4 y5) {Q Q' : Int32 → kx_S → Prop} (hQ : ∀ y0 y1, Q y0 y1 → Q' y0 y1) : ∀ (l0 : Nat) (l1 : Nat) (l2 : Nat) (l3 : Int32) (l4 : Int32) (s0 : Option Nat) (σ : kx_S), wX11_sawFor_25 k3 Q l0 l1 l2 l3 l4 s0 σ → vX11_sawFor_25 k3' Q' l0 l1 l2 l3 l4 s0 σ := by
  intro l0 l1 l2 l3 l4 s0 σ h
  unfold wX11_sawFor_25 at h
  unfold vX11_sawFor_25
  refine ⟨?_, ?_⟩
  · have h := h.1
    intro a2 e1
    have h := h a2 e1
    intro e2
    have h := h.2
    intro e3
    have h := h.2
    refine jaX6_becomeBoards ?_ _ _ _ h
    intro σ4 h
    intro e4
    have h := h.2
    intro e5
    have h := h.2
    intro σ8 e6
    have h := h σ8 e6
    intro e7
    have h := h.2
    intro σ12 e8
    have h := h σ12 e8
    intro v16 e9
    have h := h v16 e9
    exact hk3 _ _ _ _ _ _ h
  · have h := h.2
    intro e10
    have h := h e10
    exact hQ _ _ h
set_option maxRecDepth 100000 in
set_option maxHeartbeats 4000000 in
theorem jfX11_sawFor_25 {I : kx_S → Prop} (W : fw_ I [132, 136, 146, 218]) {k3 : Nat → Nat → Nat → Int32 → Int32 → kx_S → Prop} (hk3 : ∀ y0 y1 y2 y3 y4 y5, I y5 → k3 y0 y1 y2 y3 y4 y5) {Q : Int32 → kx_S → Prop} (hQ : ∀ y0 y1, I y1 → Q y0 y1) : ∀ (l0 : Nat) (l1 : Nat) (l2 : Nat) (l3 : Int32) (l4 : Int32) (s0 : Option Nat) (σ : kx_S), I σ → vX11_sawFor_25 k3 Q l0 l1 l2 l3 l4 s0 σ := by
  intro l0 l1 l2 l3 l4 s0 σ i
  unfold vX11_sawFor_25
  refine ⟨?_, ?_⟩
  · intro a2 e1
    intro e2
    intro e3
    refine jfX6_becomeBoards (I := I) (fw_sub W (by decide)) ?_ _ _ _ i
    intro σ4 iσ4
    intro e4
    intro e5
    intro σ8 e6
    have iσ8 : I σ8 := by rw [e6]; exact ((W _ iσ4).1 218 (by decide)).1 _ _
    intro e7
    intro σ12 e8
    have iσ12 : I σ12 := by rw [e8]; exact ((W _ iσ8).1 146 (by decide)).1 _ _
    intro v16 e9
    exact hk3 _ _ _ _ _ _ iσ12
  · intro e10
    exact hQ _ _ i
def vX11_sawFor_3 (Q : Int32 → kx_S → Prop) : Nat → Nat → Nat → Nat → Int32 → Int32 → kx_S → Prop
  | 0, _, _, _, _, _, _ => True
  | n + 1, l0, l1, l2, l3, l4, σ => ((l3 ≤ l4 → Q l3 σ) ∧ (¬ (l3 ≤ l4) → xt σ l1 = 9 → (((xi σ 146 l1) ≤ 0 → vX11_sawFor_25 (vX11_sawFor_3 Q n) Q l0 l1 l2 l3 l4 none σ) ∧ (¬ ((xi σ 146 l1) ≤ 0) → xt σ l2 = 2 → vX0_takeFirstFor l2 l1 σ (fun q21 σ20 => vX11_sawFor_25 (vX11_sawFor_3 Q n) Q l0 l1 l2 l3 l4 q21 σ20)))))
set_option maxRecDepth 100000 in
set_option maxHeartbeats 4000000 in
theorem jcX11_sawFor_3 {Q Q' Q'' : Int32 → kx_S → Prop} (hQ : ∀ y0 y1, Q y0 y1 → Q' y0 y1 → Q'' y0 y1) : ∀ (n : Nat) (l0 : Nat) (l1 : Nat) (l2 : Nat) (l3 : Int32) (l4 : Int32) (σ : kx_S), wX11_sawFor_3 Q n l0 l1 l2 l3 l4 σ → vX11_sawFor_3 Q' n l0 l1 l2 l3 l4 σ → wX11_sawFor_3 Q'' n l0 l1 l2 l3 l4 σ := by
  intro n
  induction n with
  | zero => intro l0 l1 l2 l3 l4 σ h; exact h.elim
  | succ n ih =>
    intro l0 l1 l2 l3 l4 σ h v
    unfold wX11_sawFor_3 at h
    unfold vX11_sawFor_3 at v
    unfold wX11_sawFor_3
    refine ⟨?_, ?_⟩
    · have h := h.1
      have v := v.1
      intro e1
      have h := h e1
      have v := v e1
      exact hQ _ _ h v
    · have h := h.2
      have v := v.2
      intro e2
      have h := h e2
      have v := v e2
      refine ⟨h.1, ?_⟩
      have v := v h.1
      have h := h.2
      refine ⟨?_, ?_⟩
      · have h := h.1
        have v := v.1
        intro e4
        have h := h e4
        have v := v e4
        exact jcX11_sawFor_25 (k3 := wX11_sawFor_3 Q n) (k3' := vX11_sawFor_3 Q' n) (k3'' := wX11_sawFor_3 Q'' n) (fun _ _ _ _ _ _ h v => ih _ _ _ _ _ _ h v) hQ _ _ _ _ _ _ _ h v
      · have h := h.2
        have v := v.2
        intro e5
        have h := h e5
        have v := v e5
        refine ⟨h.1, ?_⟩
        have v := v h.1
        have h := h.2
        refine jcX0_takeFirstFor ?_ _ _ _ h v
        intro q21 σ20 h v
        exact jcX11_sawFor_25 (k3 := wX11_sawFor_3 Q n) (k3' := vX11_sawFor_3 Q' n) (k3'' := wX11_sawFor_3 Q'' n) (fun _ _ _ _ _ _ h v => ih _ _ _ _ _ _ h v) hQ _ _ _ _ _ _ _ h v
set_option maxRecDepth 100000 in
set_option maxHeartbeats 4000000 in
theorem jaX11_sawFor_3 {Q Q' : Int32 → kx_S → Prop} (hQ : ∀ y0 y1, Q y0 y1 → Q' y0 y1) : ∀ (n m : Nat) (l0 : Nat) (l1 : Nat) (l2 : Nat) (l3 : Int32) (l4 : Int32) (σ : kx_S), wX11_sawFor_3 Q n l0 l1 l2 l3 l4 σ → vX11_sawFor_3 Q' m l0 l1 l2 l3 l4 σ := by
  intro n
  induction n with
  | zero => intro m l0 l1 l2 l3 l4 σ h; exact h.elim
  | succ n ih =>
    intro m l0 l1 l2 l3 l4 σ h
    cases m with
    | zero => exact trivial
    | succ m =>
      unfold wX11_sawFor_3 at h
      unfold vX11_sawFor_3
      refine ⟨?_, ?_⟩
      · have h := h.1
        intro e1
        have h := h e1
        exact hQ _ _ h
      · have h := h.2
        intro e2
        have h := h e2
        intro e3
        have h := h.2
        refine ⟨?_, ?_⟩
        · have h := h.1
          intro e4
          have h := h e4
          exact jaX11_sawFor_25 (k3 := wX11_sawFor_3 Q n) (k3' := vX11_sawFor_3 Q' m) (fun _ _ _ _ _ _ h => ih m _ _ _ _ _ _ h) hQ _ _ _ _ _ _ _ h
        · have h := h.2
          intro e5
          have h := h e5
          intro e6
          have h := h.2
          refine jaX0_takeFirstFor ?_ _ _ _ h
          intro q21 σ20 h
          exact jaX11_sawFor_25 (k3 := wX11_sawFor_3 Q n) (k3' := vX11_sawFor_3 Q' m) (fun _ _ _ _ _ _ h => ih m _ _ _ _ _ _ h) hQ _ _ _ _ _ _ _ h
set_option maxRecDepth 100000 in
set_option maxHeartbeats 4000000 in
theorem jfX11_sawFor_3 {I : kx_S → Prop} (W : fw_ I [16, 18, 132, 136, 146, 218, 1003]) {Q : Int32 → kx_S → Prop} (hQ : ∀ y0 y1, I y1 → Q y0 y1) : ∀ (n : Nat) (l0 : Nat) (l1 : Nat) (l2 : Nat) (l3 : Int32) (l4 : Int32) (σ : kx_S), I σ → vX11_sawFor_3 Q n l0 l1 l2 l3 l4 σ := by
  intro n
  induction n with
  | zero => intro l0 l1 l2 l3 l4 σ i; exact trivial
  | succ n ih =>
    intro l0 l1 l2 l3 l4 σ i
    unfold vX11_sawFor_3
    refine ⟨?_, ?_⟩
    · intro e1
      exact hQ _ _ i
    · intro e2
      intro e3
      refine ⟨?_, ?_⟩
      · intro e4
        exact jfX11_sawFor_25 (I := I) (fw_sub W (by decide)) (k3 := vX11_sawFor_3 Q n) (fun _ _ _ _ _ _ i => ih _ _ _ _ _ _ i) hQ _ _ _ _ _ _ _ i
      · intro e5
        intro e6
        refine jfX0_takeFirstFor (I := I) (fw_sub W (by decide)) ?_ _ _ _ i
        intro q21 σ20 iσ20
        exact jfX11_sawFor_25 (I := I) (fw_sub W (by decide)) (k3 := vX11_sawFor_3 Q n) (fun _ _ _ _ _ _ i => ih _ _ _ _ _ _ i) hQ _ _ _ _ _ _ _ iσ20
end
section
def vX11_sawFor (l0 : Nat) (l1 : Nat) (l2 : Nat) (l3 : Int32) (σ : kx_S) (Q : Int32 → kx_S → Prop) : Prop := ∀ j, vX11_sawFor_3 Q j l0 l1 l2 l3 0 σ
set_option maxRecDepth 100000 in
set_option maxHeartbeats 4000000 in
theorem jcX11_sawFor {Q Q' Q'' : Int32 → kx_S → Prop} (hQ : ∀ y0 y1, Q y0 y1 → Q' y0 y1 → Q'' y0 y1) : ∀ (l0 : Nat) (l1 : Nat) (l2 : Nat) (l3 : Int32) (σ : kx_S), wX11_sawFor l0 l1 l2 l3 σ Q → vX11_sawFor l0 l1 l2 l3 σ Q' → wX11_sawFor l0 l1 l2 l3 σ Q'' := by
  intro l0 l1 l2 l3 σ h v
  unfold wX11_sawFor at h
  unfold vX11_sawFor at v
  unfold wX11_sawFor
  obtain ⟨j, h⟩ := h
  refine ⟨j, ?_⟩
  have v := v j
  exact jcX11_sawFor_3 hQ _ _ _ _ _ _ _ h v
set_option maxRecDepth 100000 in
set_option maxHeartbeats 4000000 in
theorem jaX11_sawFor {Q Q' : Int32 → kx_S → Prop} (hQ : ∀ y0 y1, Q y0 y1 → Q' y0 y1) : ∀ (l0 : Nat) (l1 : Nat) (l2 : Nat) (l3 : Int32) (σ : kx_S), wX11_sawFor l0 l1 l2 l3 σ Q → vX11_sawFor l0 l1 l2 l3 σ Q' := by
  intro l0 l1 l2 l3 σ h
  unfold wX11_sawFor at h
  unfold vX11_sawFor
  obtain ⟨j, h⟩ := h
  intro j9
  exact jaX11_sawFor_3 hQ _ j9 _ _ _ _ _ _ h
set_option maxRecDepth 100000 in
set_option maxHeartbeats 4000000 in
theorem jfX11_sawFor {I : kx_S → Prop} (W : fw_ I [16, 18, 132, 136, 146, 218, 1003]) {Q : Int32 → kx_S → Prop} (hQ : ∀ y0 y1, I y1 → Q y0 y1) : ∀ (l0 : Nat) (l1 : Nat) (l2 : Nat) (l3 : Int32) (σ : kx_S), I σ → vX11_sawFor l0 l1 l2 l3 σ Q := by
  intro l0 l1 l2 l3 σ i
  unfold vX11_sawFor
  intro j
  exact jfX11_sawFor_3 (I := I) (fw_sub W (by decide)) hQ _ _ _ _ _ _ _ i
def vX11_runMills_91 (k2 : Nat → Int32 → kx_S → Prop) (Q : kx_S → Prop) (l0 : Nat) (l1 : Int32) (σ : kx_S) : Prop := ∀ v1 : Int32, v1 = l1 + 1 → k2 l0 v1 σ
set_option maxRecDepth 100000 in
set_option maxHeartbeats 4000000 in
theorem jcX11_runMills_91 {k2 k2' k2'' : Nat → Int32 → kx_S → Prop} (hk2 : ∀ y0 y1 y2, k2 y0 y1 y2 → k2' y0 y1 y2 → k2'' y0 y1 y2) {Q Q' Q'' : kx_S → Prop} (hQ : ∀ y0, Q y0 → Q' y0 → Q'' y0) : ∀ (l0 : Nat) (l1 : Int32) (σ : kx_S), wX11_runMills_91 k2 Q l0 l1 σ → vX11_runMills_91 k2' Q' l0 l1 σ → wX11_runMills_91 k2'' Q'' l0 l1 σ := by
  intro l0 l1 σ h v
  unfold wX11_runMills_91 at h
  unfold vX11_runMills_91 at v
  unfold wX11_runMills_91
  intro v1 e1
  have h := h v1 e1
  have v := v v1 e1
  exact hk2 _ _ _ h v
set_option maxRecDepth 100000 in
set_option maxHeartbeats 4000000 in
theorem jaX11_runMills_91 {k2 k2' : Nat → Int32 → kx_S → Prop} (hk2 : ∀ y0 y1 y2, k2 y0 y1 y2 → k2' y0 y1 y2) {Q Q' : kx_S → Prop} (hQ : ∀ y0, Q y0 → Q' y0) : ∀ (l0 : Nat) (l1 : Int32) (σ : kx_S), wX11_runMills_91 k2 Q l0 l1 σ → vX11_runMills_91 k2' Q' l0 l1 σ := by
  intro l0 l1 σ h
  unfold wX11_runMills_91 at h
  unfold vX11_runMills_91
  intro v1 e1
  have h := h v1 e1
  exact hk2 _ _ _ h
set_option maxRecDepth 100000 in
set_option maxHeartbeats 4000000 in
theorem jfX11_runMills_91 {I : kx_S → Prop} (W : fw_ I []) {k2 : Nat → Int32 → kx_S → Prop} (hk2 : ∀ y0 y1 y2, I y2 → k2 y0 y1 y2) {Q : kx_S → Prop} (hQ : ∀ y0, I y0 → Q y0) : ∀ (l0 : Nat) (l1 : Int32) (σ : kx_S), I σ → vX11_runMills_91 k2 Q l0 l1 σ := by
  intro l0 l1 σ i
  unfold vX11_runMills_91
  intro v1 e1
  exact hk2 _ _ _ i
def vX11_runMills_44 (k91 : Nat → Int32 → kx_S → Prop) (Q : kx_S → Prop) : Nat → Nat → Int32 → (Option Nat) → Int32 → Int32 → kx_S → Prop
  | 0, _, _, _, _, _, _ => True
  | n + 1, l0, l1, l2, l3, l4, σ => ∀ a2, l2 = some a2 → xt σ a2 = 2 → ∀ a5, xr σ 33 a2 = some a5 → xt σ a5 = 1 → vJx4a65c_size_8abf5 a5 σ (fun r8 σ7 => ((r8 ≤ l4 → k91 l0 l1 σ7) ∧ (¬ (r8 ≤ l4) → ((l3 ≤ 0 → k91 l0 l1 σ7) ∧ (¬ (l3 ≤ 0) → ∀ a12, l2 = some a12 → xt σ7 a12 = 2 → ∀ a15, xr σ7 33 a12 = some a15 → xt σ7 a15 = 1 → vJx4a65c_get_915e3 a15 l4 σ7 (fun q18 σ17 => ∀ a20, q18 = some a20 → xt σ17 a20 = 9 → ∀ a23, l2 = some a23 → xt σ17 l0 = 13 → vX11_sawFor l0 a20 a23 l3 σ17 (fun r26 σ25 => ∀ v28, v28 = l3 - r26 → ∀ v29 : Int32, v29 = l4 + 1 → vX11_runMills_44 k91 Q n l0 l1 (some a23) v28 v29 σ25)))))))
set_option maxRecDepth 100000 in
set_option maxHeartbeats 4000000 in
theorem jcX11_runMills_44 {k91 k91' k91'' : Nat → Int32 → kx_S → Prop} (hk91 : ∀ y0 y1 y2, k91 y0 y1 y2 → k91' y0 y1 y2 → k91'' y0 y1 y2) {Q Q' Q'' : kx_S → Prop} (hQ : ∀ y0, Q y0 → Q' y0 → Q'' y0) : ∀ (n : Nat) (l0 : Nat) (l1 : Int32) (l2 : (Option Nat)) (l3 : Int32) (l4 : Int32) (σ : kx_S), wX11_runMills_44 k91 Q n l0 l1 l2 l3 l4 σ → vX11_runMills_44 k91' Q' n l0 l1 l2 l3 l4 σ → wX11_runMills_44 k91'' Q'' n l0 l1 l2 l3 l4 σ := by
  intro n
  induction n with
  | zero => intro l0 l1 l2 l3 l4 σ h; exact h.elim
  | succ n ih =>
    intro l0 l1 l2 l3 l4 σ h v
    unfold wX11_runMills_44 at h
    unfold vX11_runMills_44 at v
    unfold wX11_runMills_44
    obtain ⟨a2, e1, h⟩ := h
    refine ⟨a2, e1, ?_⟩
    have v := v a2 e1
    refine ⟨h.1, ?_⟩
    have v := v h.1
    have h := h.2
    obtain ⟨a5, e3, h⟩ := h
    refine ⟨a5, e3, ?_⟩
    have v := v a5 e3
    refine ⟨h.1, ?_⟩
    have v := v h.1
    have h := h.2
    refine jcJx4a65c_size_8abf5 ?_ _ _ h v
    intro r8 σ7 h v
    refine ⟨?_, ?_⟩
    · have h := h.1
      have v := v.1
      intro e5
      have h := h e5
      have v := v e5
      exact hk91 _ _ _ h v
    · have h := h.2
      have v := v.2
      intro e6
      have h := h e6
      have v := v e6
      refine ⟨?_, ?_⟩
      · have h := h.1
        have v := v.1
        intro e7
        have h := h e7
        have v := v e7
        exact hk91 _ _ _ h v
      · have h := h.2
        have v := v.2
        intro e8
        have h := h e8
        have v := v e8
        obtain ⟨a12, e9, h⟩ := h
        refine ⟨a12, e9, ?_⟩
        have v := v a12 e9
        refine ⟨h.1, ?_⟩
        have v := v h.1
        have h := h.2
        obtain ⟨a15, e11, h⟩ := h
        refine ⟨a15, e11, ?_⟩
        have v := v a15 e11
        refine ⟨h.1, ?_⟩
        have v := v h.1
        have h := h.2
        refine jcJx4a65c_get_915e3 ?_ _ _ _ h v
        intro q18 σ17 h v
        obtain ⟨a20, e13, h⟩ := h
        refine ⟨a20, e13, ?_⟩
        have v := v a20 e13
        refine ⟨h.1, ?_⟩
        have v := v h.1
        have h := h.2
        obtain ⟨a23, e15, h⟩ := h
        refine ⟨a23, e15, ?_⟩
        have v := v a23 e15
        refine ⟨h.1, ?_⟩
        have v := v h.1
        have h := h.2
        refine jcX11_sawFor ?_ _ _ _ _ _ h v
        intro r26 σ25 h v
        intro v28 e17
        have h := h v28 e17
        have v := v v28 e17
        intro v29 e18
        have h := h v29 e18
        have v := v v29 e18
        exact ih _ _ _ _ _ _ h v
set_option maxRecDepth 100000 in
set_option maxHeartbeats 4000000 in
theorem jaX11_runMills_44 {k91 k91' : Nat → Int32 → kx_S → Prop} (hk91 : ∀ y0 y1 y2, k91 y0 y1 y2 → k91' y0 y1 y2) {Q Q' : kx_S → Prop} (hQ : ∀ y0, Q y0 → Q' y0) : ∀ (n m : Nat) (l0 : Nat) (l1 : Int32) (l2 : (Option Nat)) (l3 : Int32) (l4 : Int32) (σ : kx_S), wX11_runMills_44 k91 Q n l0 l1 l2 l3 l4 σ → vX11_runMills_44 k91' Q' m l0 l1 l2 l3 l4 σ := by
  intro n
  induction n with
  | zero => intro m l0 l1 l2 l3 l4 σ h; exact h.elim
  | succ n ih =>
    intro m l0 l1 l2 l3 l4 σ h
    cases m with
    | zero => exact trivial
    | succ m =>
      unfold wX11_runMills_44 at h
      unfold vX11_runMills_44
      obtain ⟨a2', e1, h⟩ := h
      intro a2 e2
      have x9 : a2' = a2 := Option.some.inj (e1.symm.trans e2)
      rw [x9] at h
      intro e3
      have h := h.2
      obtain ⟨a5', e4, h⟩ := h
      intro a5 e5
      have x9 : a5' = a5 := Option.some.inj (e4.symm.trans e5)
      rw [x9] at h
      intro e6
      have h := h.2
      refine jaJx4a65c_size_8abf5 ?_ _ _ h
      intro r8 σ7 h
      refine ⟨?_, ?_⟩
      · have h := h.1
        intro e7
        have h := h e7
        exact hk91 _ _ _ h
      · have h := h.2
        intro e8
        have h := h e8
        refine ⟨?_, ?_⟩
        · have h := h.1
          intro e9
          have h := h e9
          exact hk91 _ _ _ h
        · have h := h.2
          intro e10
          have h := h e10
          obtain ⟨a12', e11, h⟩ := h
          intro a12 e12
          have x9 : a12' = a12 := Option.some.inj (e11.symm.trans e12)
          rw [x9] at h
          intro e13
          have h := h.2
          obtain ⟨a15', e14, h⟩ := h
          intro a15 e15
          have x9 : a15' = a15 := Option.some.inj (e14.symm.trans e15)
          rw [x9] at h
          intro e16
          have h := h.2
          refine jaJx4a65c_get_915e3 ?_ _ _ _ h
          intro q18 σ17 h
          obtain ⟨a20', e17, h⟩ := h
          intro a20 e18
          have x9 : a20' = a20 := Option.some.inj (e17.symm.trans e18)
          rw [x9] at h
          intro e19
          have h := h.2
          obtain ⟨a23', e20, h⟩ := h
          intro a23 e21
          have x9 : a23' = a23 := Option.some.inj (e20.symm.trans e21)
          rw [x9] at h
          intro e22
          have h := h.2
          refine jaX11_sawFor ?_ _ _ _ _ _ h
          intro r26 σ25 h
          intro v28 e23
          have h := h v28 e23
          intro v29 e24
          have h := h v29 e24
          exact ih m _ _ _ _ _ _ h
set_option maxRecDepth 100000 in
set_option maxHeartbeats 4000000 in
theorem jfX11_runMills_44 {I : kx_S → Prop} (W : fw_ I [16, 18, 132, 136, 146, 218, 1003]) {k91 : Nat → Int32 → kx_S → Prop} (hk91 : ∀ y0 y1 y2, I y2 → k91 y0 y1 y2) {Q : kx_S → Prop} (hQ : ∀ y0, I y0 → Q y0) : ∀ (n : Nat) (l0 : Nat) (l1 : Int32) (l2 : (Option Nat)) (l3 : Int32) (l4 : Int32) (σ : kx_S), I σ → vX11_runMills_44 k91 Q n l0 l1 l2 l3 l4 σ := by
  intro n
  induction n with
  | zero => intro l0 l1 l2 l3 l4 σ i; exact trivial
  | succ n ih =>
    intro l0 l1 l2 l3 l4 σ i
    unfold vX11_runMills_44
    intro a2 e1
    intro e2
    intro a5 e3
    intro e4
    refine jfJx4a65c_size_8abf5 (I := I) (fw_sub W (by decide)) ?_ _ _ i
    intro r8 σ7 iσ7
    refine ⟨?_, ?_⟩
    · intro e5
      exact hk91 _ _ _ iσ7
    · intro e6
      refine ⟨?_, ?_⟩
      · intro e7
        exact hk91 _ _ _ iσ7
      · intro e8
        intro a12 e9
        intro e10
        intro a15 e11
        intro e12
        refine jfJx4a65c_get_915e3 (I := I) (fw_sub W (by decide)) ?_ _ _ _ iσ7
        intro q18 σ17 iσ17
        intro a20 e13
        intro e14
        intro a23 e15
        intro e16
        refine jfX11_sawFor (I := I) (fw_sub W (by decide)) ?_ _ _ _ _ _ iσ17
        intro r26 σ25 iσ25
        intro v28 e17
        intro v29 e18
        exact ih _ _ _ _ _ _ iσ25
def vX11_runMills_2 (Q : kx_S → Prop) : Nat → Nat → Int32 → kx_S → Prop
  | 0, _, _, _ => True
  | n + 1, l0, l1, σ => xt σ l0 = 13 → ∀ a31, xr σ 208 l0 = some a31 → xt σ a31 = 1 → vJx4a65c_size_8abf5 a31 σ (fun r34 σ33 => ((r34 ≤ l1 → Q σ33) ∧ (¬ (r34 ≤ l1) → xt σ33 l0 = 13 → ∀ a38, xr σ33 208 l0 = some a38 → xt σ33 a38 = 1 → vJx4a65c_get_915e3 a38 l1 σ33 (fun q41 σ40 => ∀ a43, q41 = some a43 → xt σ40 a43 = 10 → ∀ q46, q46 = xr σ40 172 a43 → ((∀ a48, q46 = some a48 → ∀ j, vX11_runMills_44 (vX11_runMills_91 (vX11_runMills_2 Q n) Q) Q j l0 l1 (some a48) 3 0 σ40) ∧ (q46 = none → vX11_runMills_91 (vX11_runMills_2 Q n) Q l0 l1 σ40))))))
set_option maxRecDepth 100000 in
set_option maxHeartbeats 4000000 in
theorem jcX11_runMills_2 {Q Q' Q'' : kx_S → Prop} (hQ : ∀ y0, Q y0 → Q' y0 → Q'' y0) : ∀ (n : Nat) (l0 : Nat) (l1 : Int32) (σ : kx_S), wX11_runMills_2 Q n l0 l1 σ → vX11_runMills_2 Q' n l0 l1 σ → wX11_runMills_2 Q'' n l0 l1 σ := by
  intro n
  induction n with
  | zero => intro l0 l1 σ h; exact h.elim
  | succ n ih =>
    intro l0 l1 σ h v
    unfold wX11_runMills_2 at h
    unfold vX11_runMills_2 at v
    unfold wX11_runMills_2
    refine ⟨h.1, ?_⟩
    have v := v h.1
    have h := h.2
    obtain ⟨a31, e2, h⟩ := h
    refine ⟨a31, e2, ?_⟩
    have v := v a31 e2
    refine ⟨h.1, ?_⟩
    have v := v h.1
    have h := h.2
    refine jcJx4a65c_size_8abf5 ?_ _ _ h v
    intro r34 σ33 h v
    refine ⟨?_, ?_⟩
    · have h := h.1
      have v := v.1
      intro e4
      have h := h e4
      have v := v e4
      exact hQ _ h v
    · have h := h.2
      have v := v.2
      intro e5
      have h := h e5
      have v := v e5
      refine ⟨h.1, ?_⟩
      have v := v h.1
      have h := h.2
      obtain ⟨a38, e7, h⟩ := h
      refine ⟨a38, e7, ?_⟩
      have v := v a38 e7
      refine ⟨h.1, ?_⟩
      have v := v h.1
      have h := h.2
      refine jcJx4a65c_get_915e3 ?_ _ _ _ h v
      intro q41 σ40 h v
      obtain ⟨a43, e9, h⟩ := h
      refine ⟨a43, e9, ?_⟩
      have v := v a43 e9
      refine ⟨h.1, ?_⟩
      have v := v h.1
      have h := h.2
      intro q46 e11
      have h := h q46 e11
      have v := v q46 e11
      refine ⟨?_, ?_⟩
      · have h := h.1
        have v := v.1
        intro a48 e12
        have h := h a48 e12
        have v := v a48 e12
        obtain ⟨j, h⟩ := h
        refine ⟨j, ?_⟩
        have v := v j
        exact jcX11_runMills_44 (k91 := wX11_runMills_91 (wX11_runMills_2 Q n) Q) (k91' := vX11_runMills_91 (vX11_runMills_2 Q' n) Q') (k91'' := wX11_runMills_91 (wX11_runMills_2 Q'' n) Q'') (fun _ _ _ h v => jcX11_runMills_91 (k2 := wX11_runMills_2 Q n) (k2' := vX11_runMills_2 Q' n) (k2'' := wX11_runMills_2 Q'' n) (fun _ _ _ h v => ih _ _ _ h v) hQ _ _ _ h v) hQ _ _ _ _ _ _ _ h v
      · have h := h.2
        have v := v.2
        intro e13
        have h := h e13
        have v := v e13
        exact jcX11_runMills_91 (k2 := wX11_runMills_2 Q n) (k2' := vX11_runMills_2 Q' n) (k2'' := wX11_runMills_2 Q'' n) (fun _ _ _ h v => ih _ _ _ h v) hQ _ _ _ h v
set_option maxRecDepth 100000 in
set_option maxHeartbeats 4000000 in
theorem jaX11_runMills_2 {Q Q' : kx_S → Prop} (hQ : ∀ y0, Q y0 → Q' y0) : ∀ (n m : Nat) (l0 : Nat) (l1 : Int32) (σ : kx_S), wX11_runMills_2 Q n l0 l1 σ → vX11_runMills_2 Q' m l0 l1 σ := by
  intro n
  induction n with
  | zero => intro m l0 l1 σ h; exact h.elim
  | succ n ih =>
    intro m l0 l1 σ h
    cases m with
    | zero => exact trivial
    | succ m =>
      unfold wX11_runMills_2 at h
      unfold vX11_runMills_2
      intro e1
      have h := h.2
      obtain ⟨a31', e2, h⟩ := h
      intro a31 e3
      have x9 : a31' = a31 := Option.some.inj (e2.symm.trans e3)
      rw [x9] at h
      intro e4
      have h := h.2
      refine jaJx4a65c_size_8abf5 ?_ _ _ h
      intro r34 σ33 h
      refine ⟨?_, ?_⟩
      · have h := h.1
        intro e5
        have h := h e5
        exact hQ _ h
      · have h := h.2
        intro e6
        have h := h e6
        intro e7
        have h := h.2
        obtain ⟨a38', e8, h⟩ := h
        intro a38 e9
        have x9 : a38' = a38 := Option.some.inj (e8.symm.trans e9)
        rw [x9] at h
        intro e10
        have h := h.2
        refine jaJx4a65c_get_915e3 ?_ _ _ _ h
        intro q41 σ40 h
        obtain ⟨a43', e11, h⟩ := h
        intro a43 e12
        have x9 : a43' = a43 := Option.some.inj (e11.symm.trans e12)
        rw [x9] at h
        intro e13
        have h := h.2
        intro q46 e14
        have h := h q46 e14
        refine ⟨?_, ?_⟩
        · have h := h.1
          intro a48 e15
          have h := h a48 e15
          obtain ⟨j, h⟩ := h
          intro j9
          exact jaX11_runMills_44 (k91 := wX11_runMills_91 (wX11_runMills_2 Q n) Q) (k91' := vX11_runMills_91 (vX11_runMills_2 Q' m) Q') (fun _ _ _ h => jaX11_runMills_91 (k2 := wX11_runMills_2 Q n) (k2' := vX11_runMills_2 Q' m) (fun _ _ _ h => ih m _ _ _ h) hQ _ _ _ h) hQ _ j9 _ _ _ _ _ _ h
        · have h := h.2
          intro e16
          have h := h e16
          exact jaX11_runMills_91 (k2 := wX11_runMills_2 Q n) (k2' := vX11_runMills_2 Q' m) (fun _ _ _ h => ih m _ _ _ h) hQ _ _ _ h
set_option maxRecDepth 100000 in
set_option maxHeartbeats 4000000 in
theorem jfX11_runMills_2 {I : kx_S → Prop} (W : fw_ I [16, 18, 132, 136, 146, 218, 1003]) {Q : kx_S → Prop} (hQ : ∀ y0, I y0 → Q y0) : ∀ (n : Nat) (l0 : Nat) (l1 : Int32) (σ : kx_S), I σ → vX11_runMills_2 Q n l0 l1 σ := by
  intro n
  induction n with
  | zero => intro l0 l1 σ i; exact trivial
  | succ n ih =>
    intro l0 l1 σ i
    unfold vX11_runMills_2
    intro e1
    intro a31 e2
    intro e3
    refine jfJx4a65c_size_8abf5 (I := I) (fw_sub W (by decide)) ?_ _ _ i
    intro r34 σ33 iσ33
    refine ⟨?_, ?_⟩
    · intro e4
      exact hQ _ iσ33
    · intro e5
      intro e6
      intro a38 e7
      intro e8
      refine jfJx4a65c_get_915e3 (I := I) (fw_sub W (by decide)) ?_ _ _ _ iσ33
      intro q41 σ40 iσ40
      intro a43 e9
      intro e10
      intro q46 e11
      refine ⟨?_, ?_⟩
      · intro a48 e12
        intro j
        exact jfX11_runMills_44 (I := I) (fw_sub W (by decide)) (k91 := vX11_runMills_91 (vX11_runMills_2 Q n) Q) (fun _ _ _ i => jfX11_runMills_91 (I := I) (fw_sub W (by decide)) (k2 := vX11_runMills_2 Q n) (fun _ _ _ i => ih _ _ _ i) hQ _ _ _ i) hQ _ _ _ _ _ _ _ iσ40
      · intro e13
        exact jfX11_runMills_91 (I := I) (fw_sub W (by decide)) (k2 := vX11_runMills_2 Q n) (fun _ _ _ i => ih _ _ _ i) hQ _ _ _ iσ40
def vX11_runMills (l0 : Nat) (σ : kx_S) (Q : kx_S → Prop) : Prop := ∀ j, vX11_runMills_2 Q j l0 0 σ
set_option maxRecDepth 100000 in
set_option maxHeartbeats 4000000 in
theorem jcX11_runMills {Q Q' Q'' : kx_S → Prop} (hQ : ∀ y0, Q y0 → Q' y0 → Q'' y0) : ∀ (l0 : Nat) (σ : kx_S), wX11_runMills l0 σ Q → vX11_runMills l0 σ Q' → wX11_runMills l0 σ Q'' := by
  intro l0 σ h v
  unfold wX11_runMills at h
  unfold vX11_runMills at v
  unfold wX11_runMills
  obtain ⟨j, h⟩ := h
  refine ⟨j, ?_⟩
  have v := v j
  exact jcX11_runMills_2 hQ _ _ _ _ h v
set_option maxRecDepth 100000 in
set_option maxHeartbeats 4000000 in
theorem jaX11_runMills {Q Q' : kx_S → Prop} (hQ : ∀ y0, Q y0 → Q' y0) : ∀ (l0 : Nat) (σ : kx_S), wX11_runMills l0 σ Q → vX11_runMills l0 σ Q' := by
  intro l0 σ h
  unfold wX11_runMills at h
  unfold vX11_runMills
  obtain ⟨j, h⟩ := h
  intro j9
  exact jaX11_runMills_2 hQ _ j9 _ _ _ h
set_option maxRecDepth 100000 in
set_option maxHeartbeats 4000000 in
theorem jfX11_runMills {I : kx_S → Prop} (W : fw_ I [16, 18, 132, 136, 146, 218, 1003]) {Q : kx_S → Prop} (hQ : ∀ y0, I y0 → Q y0) : ∀ (l0 : Nat) (σ : kx_S), I σ → vX11_runMills l0 σ Q := by
  intro l0 σ i
  unfold vX11_runMills
  intro j
  exact jfX11_runMills_2 (I := I) (fw_sub W (by decide)) hQ _ _ _ _ i
def vX11_hours_84 (Q : Int32 → kx_S → Prop) (QX : String → kx_S → Prop) (l0 : Nat) (σ : kx_S) : Prop := xt σ l0 = 13 → Q (xi σ 217 l0) σ
set_option maxRecDepth 100000 in
set_option maxHeartbeats 4000000 in
theorem jcX11_hours_84 {Q Q' Q'' : Int32 → kx_S → Prop} (hQ : ∀ y0 y1, Q y0 y1 → Q' y0 y1 → Q'' y0 y1) {QX QX' QX'' : String → kx_S → Prop} (hX : ∀ y0 y1, QX y0 y1 → QX' y0 y1 → QX'' y0 y1) : ∀ (l0 : Nat) (σ : kx_S), wX11_hours_84 Q QX l0 σ → vX11_hours_84 Q' QX' l0 σ → wX11_hours_84 Q'' QX'' l0 σ := by
  intro l0 σ h v
  unfold wX11_hours_84 at h
  unfold vX11_hours_84 at v
  unfold wX11_hours_84
  refine ⟨h.1, ?_⟩
  have v := v h.1
  have h := h.2
  exact hQ _ _ h v
set_option maxRecDepth 100000 in
set_option maxHeartbeats 4000000 in
theorem jaX11_hours_84 {Q Q' : Int32 → kx_S → Prop} (hQ : ∀ y0 y1, Q y0 y1 → Q' y0 y1) {QX QX' : String → kx_S → Prop} (hX : ∀ y0 y1, QX y0 y1 → QX' y0 y1) : ∀ (l0 : Nat) (σ : kx_S), wX11_hours_84 Q QX l0 σ → vX11_hours_84 Q' QX' l0 σ := by
  intro l0 σ h
  unfold wX11_hours_84 at h
  unfold vX11_hours_84
  intro e1
  have h := h.2
  exact hQ _ _ h
set_option maxRecDepth 100000 in
set_option maxHeartbeats 4000000 in
theorem jfX11_hours_84 {I : kx_S → Prop} (W : fw_ I []) {Q : Int32 → kx_S → Prop} (hQ : ∀ y0 y1, I y1 → Q y0 y1) {QX : String → kx_S → Prop} (hX : ∀ y0 y1, I y1 → QX y0 y1) : ∀ (l0 : Nat) (σ : kx_S), I σ → vX11_hours_84 Q QX l0 σ := by
  intro l0 σ i
  unfold vX11_hours_84
  intro e1
  exact hQ _ _ i
def vX11_hours_23 (Q : Int32 → kx_S → Prop) (QX : String → kx_S → Prop) (σ : kx_S) : Prop := xc σ < kx_N → QX pz_I (xbump σ)
set_option maxRecDepth 100000 in
set_option maxHeartbeats 4000000 in
theorem jcX11_hours_23 {Q Q' Q'' : Int32 → kx_S → Prop} (hQ : ∀ y0 y1, Q y0 y1 → Q' y0 y1 → Q'' y0 y1) {QX QX' QX'' : String → kx_S → Prop} (hX : ∀ y0 y1, QX y0 y1 → QX' y0 y1 → QX'' y0 y1) : ∀ (σ : kx_S), wX11_hours_23 Q QX σ → vX11_hours_23 Q' QX' σ → wX11_hours_23 Q'' QX'' σ := by
  intro σ h v
  unfold wX11_hours_23 at h
  unfold vX11_hours_23 at v
  unfold wX11_hours_23
  refine ⟨h.1, ?_⟩
  have v := v h.1
  have h := h.2
  exact hX _ _ h v
set_option maxRecDepth 100000 in
set_option maxHeartbeats 4000000 in
theorem jaX11_hours_23 {Q Q' : Int32 → kx_S → Prop} (hQ : ∀ y0 y1, Q y0 y1 → Q' y0 y1) {QX QX' : String → kx_S → Prop} (hX : ∀ y0 y1, QX y0 y1 → QX' y0 y1) : ∀ (σ : kx_S), wX11_hours_23 Q QX σ → vX11_hours_23 Q' QX' σ := by
  intro σ h
  unfold wX11_hours_23 at h
  unfold vX11_hours_23
  intro e1
  have h := h.2
  exact hX _ _ h
set_option maxRecDepth 100000 in
set_option maxHeartbeats 4000000 in
theorem jfX11_hours_23 {I : kx_S → Prop} (W : fw_ I [1005]) {Q : Int32 → kx_S → Prop} (hQ : ∀ y0 y1, I y1 → Q y0 y1) {QX : String → kx_S → Prop} (hX : ∀ y0 y1, I y1 → QX y0 y1) : ∀ (σ : kx_S), I σ → vX11_hours_23 Q QX σ := by
  intro σ i
  unfold vX11_hours_23
  intro e1
  exact hX _ _ ((W _ i).2.2.2.2.2.1 (by decide))
def vX11_hours_35 (k84 : Nat → kx_S → Prop) (Q : Int32 → kx_S → Prop) (QX : String → kx_S → Prop) : Nat → Nat → Int32 → Int32 → kx_S → Prop
  | 0, _, _, _, _ => True
  | n + 1, l0, l1, l2, σ => ((l1 ≤ l2 → k84 l0 σ) ∧ (¬ (l1 ≤ l2) → xt σ l0 = 13 → vX11_runWater l0 σ (fun σ4 => xt σ4 l0 = 13 → vX11_moveLogs l0 σ4 (fun σ6 => xt σ6 l0 = 13 → vX11_jamCells l0 σ6 (fun σ8 => xt σ8 l0 = 13 → vX11_freeJams l0 σ8 (fun σ10 => xt σ10 l0 = 13 → vX11_makeJamsKnown l0 σ10 (fun σ12 => xt σ12 l0 = 13 → vX11_ageLogs l0 σ12 (fun σ14 => xt σ14 l0 = 13 → vX11_runMills l0 σ14 (fun σ16 => xt σ16 l0 = 13 → ∀ σ19, σ19 = xsi σ16 217 l0 ((xi σ16 217 l0) + 1) → ∀ v21 : Int32, v21 = l2 + 1 → vX11_hours_35 k84 Q QX n l0 l1 v21 σ19)))))))))
set_option maxRecDepth 100000 in
set_option maxHeartbeats 4000000 in
theorem jcX11_hours_35 {k84 k84' k84'' : Nat → kx_S → Prop} (hk84 : ∀ y0 y1, k84 y0 y1 → k84' y0 y1 → k84'' y0 y1) {Q Q' Q'' : Int32 → kx_S → Prop} (hQ : ∀ y0 y1, Q y0 y1 → Q' y0 y1 → Q'' y0 y1) {QX QX' QX'' : String → kx_S → Prop} (hX : ∀ y0 y1, QX y0 y1 → QX' y0 y1 → QX'' y0 y1) : ∀ (n : Nat) (l0 : Nat) (l1 : Int32) (l2 : Int32) (σ : kx_S), wX11_hours_35 k84 Q QX n l0 l1 l2 σ → vX11_hours_35 k84' Q' QX' n l0 l1 l2 σ → wX11_hours_35 k84'' Q'' QX'' n l0 l1 l2 σ := by
  intro n
  induction n with
  | zero => intro l0 l1 l2 σ h; exact h.elim
  | succ n ih =>
    intro l0 l1 l2 σ h v
    unfold wX11_hours_35 at h
    unfold vX11_hours_35 at v
    unfold wX11_hours_35
    refine ⟨?_, ?_⟩
    · have h := h.1
      have v := v.1
      intro e1
      have h := h e1
      have v := v e1
      exact hk84 _ _ h v
    · have h := h.2
      have v := v.2
      intro e2
      have h := h e2
      have v := v e2
      refine ⟨h.1, ?_⟩
      have v := v h.1
      have h := h.2
      refine jcX11_runWater ?_ _ _ h v
      intro σ4 h v
      refine ⟨h.1, ?_⟩
      have v := v h.1
      have h := h.2
      refine jcX11_moveLogs ?_ _ _ h v
      intro σ6 h v
      refine ⟨h.1, ?_⟩
      have v := v h.1
      have h := h.2
      refine jcX11_jamCells ?_ _ _ h v
      intro σ8 h v
      refine ⟨h.1, ?_⟩
      have v := v h.1
      have h := h.2
      refine jcX11_freeJams ?_ _ _ h v
      intro σ10 h v
      refine ⟨h.1, ?_⟩
      have v := v h.1
      have h := h.2
      refine jcX11_makeJamsKnown ?_ _ _ h v
      intro σ12 h v
      refine ⟨h.1, ?_⟩
      have v := v h.1
      have h := h.2
      refine jcX11_ageLogs ?_ _ _ h v
      intro σ14 h v
      refine ⟨h.1, ?_⟩
      have v := v h.1
      have h := h.2
      refine jcX11_runMills ?_ _ _ h v
      intro σ16 h v
      refine ⟨h.1, ?_⟩
      have v := v h.1
      have h := h.2
      intro σ19 e11
      have h := h σ19 e11
      have v := v σ19 e11
      intro v21 e12
      have h := h v21 e12
      have v := v v21 e12
      exact ih _ _ _ _ h v
set_option maxRecDepth 100000 in
set_option maxHeartbeats 4000000 in
theorem jaX11_hours_35 {k84 k84' : Nat → kx_S → Prop} (hk84 : ∀ y0 y1, k84 y0 y1 → k84' y0 y1) {Q Q' : Int32 → kx_S → Prop} (hQ : ∀ y0 y1, Q y0 y1 → Q' y0 y1) {QX QX' : String → kx_S → Prop} (hX : ∀ y0 y1, QX y0 y1 → QX' y0 y1) : ∀ (n m : Nat) (l0 : Nat) (l1 : Int32) (l2 : Int32) (σ : kx_S), wX11_hours_35 k84 Q QX n l0 l1 l2 σ → vX11_hours_35 k84' Q' QX' m l0 l1 l2 σ := by
  intro n
  induction n with
  | zero => intro m l0 l1 l2 σ h; exact h.elim
  | succ n ih =>
    intro m l0 l1 l2 σ h
    cases m with
    | zero => exact trivial
    | succ m =>
      unfold wX11_hours_35 at h
      unfold vX11_hours_35
      refine ⟨?_, ?_⟩
      · have h := h.1
        intro e1
        have h := h e1
        exact hk84 _ _ h
      · have h := h.2
        intro e2
        have h := h e2
        intro e3
        have h := h.2
        refine jaX11_runWater ?_ _ _ h
        intro σ4 h
        intro e4
        have h := h.2
        refine jaX11_moveLogs ?_ _ _ h
        intro σ6 h
        intro e5
        have h := h.2
        refine jaX11_jamCells ?_ _ _ h
        intro σ8 h
        intro e6
        have h := h.2
        refine jaX11_freeJams ?_ _ _ h
        intro σ10 h
        intro e7
        have h := h.2
        refine jaX11_makeJamsKnown ?_ _ _ h
        intro σ12 h
        intro e8
        have h := h.2
        refine jaX11_ageLogs ?_ _ _ h
        intro σ14 h
        intro e9
        have h := h.2
        refine jaX11_runMills ?_ _ _ h
        intro σ16 h
        intro e10
        have h := h.2
        intro σ19 e11
        have h := h σ19 e11
        intro v21 e12
        have h := h v21 e12
        exact ih m _ _ _ _ h
set_option maxRecDepth 100000 in
set_option maxHeartbeats 4000000 in
theorem jfX11_hours_35 {I : kx_S → Prop} (W : fw_ I [16, 17, 18, 50, 51, 65, 82, 83, 84, 132, 133, 134, 135, 136, 146, 167, 169, 170, 217, 218, 220, 221, 1001, 1002, 1003, 1222]) {k84 : Nat → kx_S → Prop} (hk84 : ∀ y0 y1, I y1 → k84 y0 y1) {Q : Int32 → kx_S → Prop} (hQ : ∀ y0 y1, I y1 → Q y0 y1) {QX : String → kx_S → Prop} (hX : ∀ y0 y1, I y1 → QX y0 y1) : ∀ (n : Nat) (l0 : Nat) (l1 : Int32) (l2 : Int32) (σ : kx_S), I σ → vX11_hours_35 k84 Q QX n l0 l1 l2 σ := by
  intro n
  induction n with
  | zero => intro l0 l1 l2 σ i; exact trivial
  | succ n ih =>
    intro l0 l1 l2 σ i
    unfold vX11_hours_35
    refine ⟨?_, ?_⟩
    · intro e1
      exact hk84 _ _ i
    · intro e2
      intro e3
      refine jfX11_runWater (I := I) (fw_sub W (by decide)) ?_ _ _ i
      intro σ4 iσ4
      intro e4
      refine jfX11_moveLogs (I := I) (fw_sub W (by decide)) ?_ _ _ iσ4
      intro σ6 iσ6
      intro e5
      refine jfX11_jamCells (I := I) (fw_sub W (by decide)) ?_ _ _ iσ6
      intro σ8 iσ8
      intro e6
      refine jfX11_freeJams (I := I) (fw_sub W (by decide)) ?_ _ _ iσ8
      intro σ10 iσ10
      intro e7
      refine jfX11_makeJamsKnown (I := I) (fw_sub W (by decide)) ?_ _ _ iσ10
      intro σ12 iσ12
      intro e8
      refine jfX11_ageLogs (I := I) (fw_sub W (by decide)) ?_ _ _ iσ12
      intro σ14 iσ14
      intro e9
      refine jfX11_runMills (I := I) (fw_sub W (by decide)) ?_ _ _ iσ14
      intro σ16 iσ16
      intro e10
      intro σ19 e11
      have iσ19 : I σ19 := by rw [e11]; exact ((W _ iσ16).1 217 (by decide)).1 _ _
      intro v21 e12
      exact ih _ _ _ _ iσ19
def vX11_hours (l0 : Nat) (l1 : Int32) (σ : kx_S) (Q : Int32 → kx_S → Prop) (QX : String → kx_S → Prop) : Prop := vX11_isWithin l1 0 200 σ (fun r23 σ22 => ((r23 = 0 → vX11_hours_23 Q QX σ22) ∧ (¬ (r23 = 0) → xt σ22 l0 = 13 → ((((xi σ22 217 l0) + l1) ≤ 20000 → ∀ j, vX11_hours_35 (vX11_hours_84 Q QX) Q QX j l0 l1 0 σ22) ∧ (¬ (((xi σ22 217 l0) + l1) ≤ 20000) → vX11_hours_23 Q QX σ22)))))
set_option maxRecDepth 100000 in
set_option maxHeartbeats 4000000 in
theorem jcX11_hours {Q Q' Q'' : Int32 → kx_S → Prop} (hQ : ∀ y0 y1, Q y0 y1 → Q' y0 y1 → Q'' y0 y1) {QX QX' QX'' : String → kx_S → Prop} (hX : ∀ y0 y1, QX y0 y1 → QX' y0 y1 → QX'' y0 y1) : ∀ (l0 : Nat) (l1 : Int32) (σ : kx_S), wX11_hours l0 l1 σ Q QX → vX11_hours l0 l1 σ Q' QX' → wX11_hours l0 l1 σ Q'' QX'' := by
  intro l0 l1 σ h v
  unfold wX11_hours at h
  unfold vX11_hours at v
  unfold wX11_hours
  refine jcX11_isWithin ?_ _ _ _ _ h v
  intro r23 σ22 h v
  refine ⟨?_, ?_⟩
  · have h := h.1
    have v := v.1
    intro e1
    have h := h e1
    have v := v e1
    exact jcX11_hours_23 hQ hX _ h v
  · have h := h.2
    have v := v.2
    intro e2
    have h := h e2
    have v := v e2
    refine ⟨h.1, ?_⟩
    have v := v h.1
    have h := h.2
    refine ⟨?_, ?_⟩
    · have h := h.1
      have v := v.1
      intro e4
      have h := h e4
      have v := v e4
      obtain ⟨j, h⟩ := h
      refine ⟨j, ?_⟩
      have v := v j
      exact jcX11_hours_35 (k84 := wX11_hours_84 Q QX) (k84' := vX11_hours_84 Q' QX') (k84'' := wX11_hours_84 Q'' QX'') (fun _ _ h v => jcX11_hours_84 hQ hX _ _ h v) hQ hX _ _ _ _ _ h v
    · have h := h.2
      have v := v.2
      intro e5
      have h := h e5
      have v := v e5
      exact jcX11_hours_23 hQ hX _ h v
set_option maxRecDepth 100000 in
set_option maxHeartbeats 4000000 in
theorem jaX11_hours {Q Q' : Int32 → kx_S → Prop} (hQ : ∀ y0 y1, Q y0 y1 → Q' y0 y1) {QX QX' : String → kx_S → Prop} (hX : ∀ y0 y1, QX y0 y1 → QX' y0 y1) : ∀ (l0 : Nat) (l1 : Int32) (σ : kx_S), wX11_hours l0 l1 σ Q QX → vX11_hours l0 l1 σ Q' QX' := by
  intro l0 l1 σ h
  unfold wX11_hours at h
  unfold vX11_hours
  refine jaX11_isWithin ?_ _ _ _ _ h
  intro r23 σ22 h
  refine ⟨?_, ?_⟩
  · have h := h.1
    intro e1
    have h := h e1
    exact jaX11_hours_23 hQ hX _ h
  · have h := h.2
    intro e2
    have h := h e2
    intro e3
    have h := h.2
    refine ⟨?_, ?_⟩
    · have h := h.1
      intro e4
      have h := h e4
      obtain ⟨j, h⟩ := h
      intro j9
      exact jaX11_hours_35 (k84 := wX11_hours_84 Q QX) (k84' := vX11_hours_84 Q' QX') (fun _ _ h => jaX11_hours_84 hQ hX _ _ h) hQ hX _ j9 _ _ _ _ h
    · have h := h.2
      intro e5
      have h := h e5
      exact jaX11_hours_23 hQ hX _ h
set_option maxRecDepth 100000 in
set_option maxHeartbeats 4000000 in
theorem jfX11_hours {I : kx_S → Prop} (W : fw_ I [16, 17, 18, 50, 51, 65, 82, 83, 84, 132, 133, 134, 135, 136, 146, 167, 169, 170, 217, 218, 220, 221, 1001, 1002, 1003, 1005, 1222]) {Q : Int32 → kx_S → Prop} (hQ : ∀ y0 y1, I y1 → Q y0 y1) {QX : String → kx_S → Prop} (hX : ∀ y0 y1, I y1 → QX y0 y1) : ∀ (l0 : Nat) (l1 : Int32) (σ : kx_S), I σ → vX11_hours l0 l1 σ Q QX := by
  intro l0 l1 σ i
  unfold vX11_hours
  refine jfX11_isWithin (I := I) (fw_sub W (by decide)) ?_ _ _ _ _ i
  intro r23 σ22 iσ22
  refine ⟨?_, ?_⟩
  · intro e1
    exact jfX11_hours_23 (I := I) (fw_sub W (by decide)) hQ hX _ iσ22
  · intro e2
    intro e3
    refine ⟨?_, ?_⟩
    · intro e4
      intro j
      exact jfX11_hours_35 (I := I) (fw_sub W (by decide)) (k84 := vX11_hours_84 Q QX) (fun _ _ i => jfX11_hours_84 (I := I) (fw_sub W (by decide)) hQ hX _ _ i) hQ hX _ _ _ _ _ iσ22
    · intro e5
      exact jfX11_hours_23 (I := I) (fw_sub W (by decide)) hQ hX _ iσ22
def vX11_wants (l0 : Nat) (l1 : Int32) (σ : kx_S) (Q : Int32 → kx_S → Prop) (QX : String → kx_S → Prop) : Prop := xt σ l0 = 13 → ∀ a2, xr σ 212 l0 = some a2 → xt σ a2 = 1 → vJx4a65c_size_8abf5 a2 σ (fun r5 σ4 => vX11_isWithin l1 0 (r5 - 1) σ4 (fun r8 σ7 => ((¬ r8 = 0 → xt σ7 l0 = 13 → ∀ a11, xr σ7 212 l0 = some a11 → xt σ7 a11 = 1 → vJx4a65c_get_915e3 a11 l1 σ7 (fun q14 σ13 => ∀ a16, q14 = some a16 → xt σ13 a16 = 9 → Q (xi σ13 146 a16) σ13)) ∧ (r8 = 0 → xc σ7 < kx_N → QX pz_N (xbump σ7)))))
set_option maxRecDepth 100000 in
set_option maxHeartbeats 4000000 in
theorem jcX11_wants {Q Q' Q'' : Int32 → kx_S → Prop} (hQ : ∀ y0 y1, Q y0 y1 → Q' y0 y1 → Q'' y0 y1) {QX QX' QX'' : String → kx_S → Prop} (hX : ∀ y0 y1, QX y0 y1 → QX' y0 y1 → QX'' y0 y1) : ∀ (l0 : Nat) (l1 : Int32) (σ : kx_S), wX11_wants l0 l1 σ Q QX → vX11_wants l0 l1 σ Q' QX' → wX11_wants l0 l1 σ Q'' QX'' := by
  intro l0 l1 σ h v
  unfold wX11_wants at h
  unfold vX11_wants at v
  unfold wX11_wants
  refine ⟨h.1, ?_⟩
  have v := v h.1
  have h := h.2
  obtain ⟨a2, e2, h⟩ := h
  refine ⟨a2, e2, ?_⟩
  have v := v a2 e2
  refine ⟨h.1, ?_⟩
  have v := v h.1
  have h := h.2
  refine jcJx4a65c_size_8abf5 ?_ _ _ h v
  intro r5 σ4 h v
  refine jcX11_isWithin ?_ _ _ _ _ h v
  intro r8 σ7 h v
  refine ⟨?_, ?_⟩
  · have h := h.1
    have v := v.1
    intro e4
    have h := h e4
    have v := v e4
    refine ⟨h.1, ?_⟩
    have v := v h.1
    have h := h.2
    obtain ⟨a11, e6, h⟩ := h
    refine ⟨a11, e6, ?_⟩
    have v := v a11 e6
    refine ⟨h.1, ?_⟩
    have v := v h.1
    have h := h.2
    refine jcJx4a65c_get_915e3 ?_ _ _ _ h v
    intro q14 σ13 h v
    obtain ⟨a16, e8, h⟩ := h
    refine ⟨a16, e8, ?_⟩
    have v := v a16 e8
    refine ⟨h.1, ?_⟩
    have v := v h.1
    have h := h.2
    exact hQ _ _ h v
  · have h := h.2
    have v := v.2
    intro e10
    have h := h e10
    have v := v e10
    refine ⟨h.1, ?_⟩
    have v := v h.1
    have h := h.2
    exact hX _ _ h v
set_option maxRecDepth 100000 in
set_option maxHeartbeats 4000000 in
theorem jaX11_wants {Q Q' : Int32 → kx_S → Prop} (hQ : ∀ y0 y1, Q y0 y1 → Q' y0 y1) {QX QX' : String → kx_S → Prop} (hX : ∀ y0 y1, QX y0 y1 → QX' y0 y1) : ∀ (l0 : Nat) (l1 : Int32) (σ : kx_S), wX11_wants l0 l1 σ Q QX → vX11_wants l0 l1 σ Q' QX' := by
  intro l0 l1 σ h
  unfold wX11_wants at h
  unfold vX11_wants
  intro e1
  have h := h.2
  obtain ⟨a2', e2, h⟩ := h
  intro a2 e3
  have x9 : a2' = a2 := Option.some.inj (e2.symm.trans e3)
  rw [x9] at h
  intro e4
  have h := h.2
  refine jaJx4a65c_size_8abf5 ?_ _ _ h
  intro r5 σ4 h
  refine jaX11_isWithin ?_ _ _ _ _ h
  intro r8 σ7 h
  refine ⟨?_, ?_⟩
  · have h := h.1
    intro e5
    have h := h e5
    intro e6
    have h := h.2
    obtain ⟨a11', e7, h⟩ := h
    intro a11 e8
    have x9 : a11' = a11 := Option.some.inj (e7.symm.trans e8)
    rw [x9] at h
    intro e9
    have h := h.2
    refine jaJx4a65c_get_915e3 ?_ _ _ _ h
    intro q14 σ13 h
    obtain ⟨a16', e10, h⟩ := h
    intro a16 e11
    have x9 : a16' = a16 := Option.some.inj (e10.symm.trans e11)
    rw [x9] at h
    intro e12
    have h := h.2
    exact hQ _ _ h
  · have h := h.2
    intro e13
    have h := h e13
    intro e14
    have h := h.2
    exact hX _ _ h
set_option maxRecDepth 100000 in
set_option maxHeartbeats 4000000 in
theorem jfX11_wants {I : kx_S → Prop} (W : fw_ I [1005]) {Q : Int32 → kx_S → Prop} (hQ : ∀ y0 y1, I y1 → Q y0 y1) {QX : String → kx_S → Prop} (hX : ∀ y0 y1, I y1 → QX y0 y1) : ∀ (l0 : Nat) (l1 : Int32) (σ : kx_S), I σ → vX11_wants l0 l1 σ Q QX := by
  intro l0 l1 σ i
  unfold vX11_wants
  intro e1
  intro a2 e2
  intro e3
  refine jfJx4a65c_size_8abf5 (I := I) (fw_sub W (by decide)) ?_ _ _ i
  intro r5 σ4 iσ4
  refine jfX11_isWithin (I := I) (fw_sub W (by decide)) ?_ _ _ _ _ iσ4
  intro r8 σ7 iσ7
  refine ⟨?_, ?_⟩
  · intro e4
    intro e5
    intro a11 e6
    intro e7
    refine jfJx4a65c_get_915e3 (I := I) (fw_sub W (by decide)) ?_ _ _ _ iσ7
    intro q14 σ13 iσ13
    intro a16 e8
    intro e9
    exact hQ _ _ iσ13
  · intro e10
    intro e11
    exact hX _ _ ((W _ iσ7).2.2.2.2.2.1 (by decide))
def vX11_log (l0 : Nat) (l1 : Int32) (l2 : Int32) (σ : kx_S) (Q : Int32 → kx_S → Prop) (QX : String → kx_S → Prop) : Prop := xt σ l0 = 13 → vX11_logAt l0 l1 σ (fun b2 σ1 => ∀ v4, v4 = l2 → ((v4 = 0 → xt σ1 b2 = 8 → Q (xi σ1 129 b2) σ1) ∧ ((v4 = 1 → xt σ1 b2 = 8 → Q (xi σ1 130 b2) σ1) ∧ ((v4 = 2 → xt σ1 b2 = 8 → Q (xi σ1 131 b2) σ1) ∧ ((v4 = 3 → xt σ1 b2 = 8 → Q (xi σ1 132 b2) σ1) ∧ ((v4 = 4 → xt σ1 b2 = 8 → Q (xi σ1 133 b2) σ1) ∧ ((v4 = 5 → xt σ1 b2 = 8 → Q (xi σ1 134 b2) σ1) ∧ ((v4 = 6 → xt σ1 b2 = 8 → Q (xi σ1 135 b2) σ1) ∧ ((v4 = 7 → xt σ1 b2 = 8 → Q (xi σ1 136 b2) σ1) ∧ (¬ v4 = 0 → ¬ v4 = 1 → ¬ v4 = 2 → ¬ v4 = 3 → ¬ v4 = 4 → ¬ v4 = 5 → ¬ v4 = 6 → ¬ v4 = 7 → xc σ1 < kx_N → QX pz_N (xbump σ1))))))))))) QX
set_option maxRecDepth 100000 in
set_option maxHeartbeats 4000000 in
theorem jcX11_log {Q Q' Q'' : Int32 → kx_S → Prop} (hQ : ∀ y0 y1, Q y0 y1 → Q' y0 y1 → Q'' y0 y1) {QX QX' QX'' : String → kx_S → Prop} (hX : ∀ y0 y1, QX y0 y1 → QX' y0 y1 → QX'' y0 y1) : ∀ (l0 : Nat) (l1 : Int32) (l2 : Int32) (σ : kx_S), wX11_log l0 l1 l2 σ Q QX → vX11_log l0 l1 l2 σ Q' QX' → wX11_log l0 l1 l2 σ Q'' QX'' := by
  intro l0 l1 l2 σ h v
  unfold wX11_log at h
  unfold vX11_log at v
  unfold wX11_log
  refine ⟨h.1, ?_⟩
  have v := v h.1
  have h := h.2
  refine jcX11_logAt ?_ hX _ _ _ h v
  intro b2 σ1 h v
  intro v4 e2
  have h := h v4 e2
  have v := v v4 e2
  refine ⟨?_, ?_⟩
  · have h := h.1
    have v := v.1
    intro e3
    have h := h e3
    have v := v e3
    refine ⟨h.1, ?_⟩
    have v := v h.1
    have h := h.2
    exact hQ _ _ h v
  · have h := h.2
    have v := v.2
    refine ⟨?_, ?_⟩
    · have h := h.1
      have v := v.1
      intro e5
      have h := h e5
      have v := v e5
      refine ⟨h.1, ?_⟩
      have v := v h.1
      have h := h.2
      exact hQ _ _ h v
    · have h := h.2
      have v := v.2
      refine ⟨?_, ?_⟩
      · have h := h.1
        have v := v.1
        intro e7
        have h := h e7
        have v := v e7
        refine ⟨h.1, ?_⟩
        have v := v h.1
        have h := h.2
        exact hQ _ _ h v
      · have h := h.2
        have v := v.2
        refine ⟨?_, ?_⟩
        · have h := h.1
          have v := v.1
          intro e9
          have h := h e9
          have v := v e9
          refine ⟨h.1, ?_⟩
          have v := v h.1
          have h := h.2
          exact hQ _ _ h v
        · have h := h.2
          have v := v.2
          refine ⟨?_, ?_⟩
          · have h := h.1
            have v := v.1
            intro e11
            have h := h e11
            have v := v e11
            refine ⟨h.1, ?_⟩
            have v := v h.1
            have h := h.2
            exact hQ _ _ h v
          · have h := h.2
            have v := v.2
            refine ⟨?_, ?_⟩
            · have h := h.1
              have v := v.1
              intro e13
              have h := h e13
              have v := v e13
              refine ⟨h.1, ?_⟩
              have v := v h.1
              have h := h.2
              exact hQ _ _ h v
            · have h := h.2
              have v := v.2
              refine ⟨?_, ?_⟩
              · have h := h.1
                have v := v.1
                intro e15
                have h := h e15
                have v := v e15
                refine ⟨h.1, ?_⟩
                have v := v h.1
                have h := h.2
                exact hQ _ _ h v
              · have h := h.2
                have v := v.2
                refine ⟨?_, ?_⟩
                · have h := h.1
                  have v := v.1
                  intro e17
                  have h := h e17
                  have v := v e17
                  refine ⟨h.1, ?_⟩
                  have v := v h.1
                  have h := h.2
                  exact hQ _ _ h v
                · have h := h.2
                  have v := v.2
                  intro e19 e20 e21 e22 e23 e24 e25 e26
                  have h := h e19 e20 e21 e22 e23 e24 e25 e26
                  have v := v e19 e20 e21 e22 e23 e24 e25 e26
                  refine ⟨h.1, ?_⟩
                  have v := v h.1
                  have h := h.2
                  exact hX _ _ h v
set_option maxRecDepth 100000 in
set_option maxHeartbeats 4000000 in
theorem jaX11_log {Q Q' : Int32 → kx_S → Prop} (hQ : ∀ y0 y1, Q y0 y1 → Q' y0 y1) {QX QX' : String → kx_S → Prop} (hX : ∀ y0 y1, QX y0 y1 → QX' y0 y1) : ∀ (l0 : Nat) (l1 : Int32) (l2 : Int32) (σ : kx_S), wX11_log l0 l1 l2 σ Q QX → vX11_log l0 l1 l2 σ Q' QX' := by
  intro l0 l1 l2 σ h
  unfold wX11_log at h
  unfold vX11_log
  intro e1
  have h := h.2
  refine jaX11_logAt ?_ hX _ _ _ h
  intro b2 σ1 h
  intro v4 e2
  have h := h v4 e2
  refine ⟨?_, ?_⟩
  · have h := h.1
    intro e3
    have h := h e3
    intro e4
    have h := h.2
    exact hQ _ _ h
  · have h := h.2
    refine ⟨?_, ?_⟩
    · have h := h.1
      intro e5
      have h := h e5
      intro e6
      have h := h.2
      exact hQ _ _ h
    · have h := h.2
      refine ⟨?_, ?_⟩
      · have h := h.1
        intro e7
        have h := h e7
        intro e8
        have h := h.2
        exact hQ _ _ h
      · have h := h.2
        refine ⟨?_, ?_⟩
        · have h := h.1
          intro e9
          have h := h e9
          intro e10
          have h := h.2
          exact hQ _ _ h
        · have h := h.2
          refine ⟨?_, ?_⟩
          · have h := h.1
            intro e11
            have h := h e11
            intro e12
            have h := h.2
            exact hQ _ _ h
          · have h := h.2
            refine ⟨?_, ?_⟩
            · have h := h.1
              intro e13
              have h := h e13
              intro e14
              have h := h.2
              exact hQ _ _ h
            · have h := h.2
              refine ⟨?_, ?_⟩
              · have h := h.1
                intro e15
                have h := h e15
                intro e16
                have h := h.2
                exact hQ _ _ h
              · have h := h.2
                refine ⟨?_, ?_⟩
                · have h := h.1
                  intro e17
                  have h := h e17
                  intro e18
                  have h := h.2
                  exact hQ _ _ h
                · have h := h.2
                  intro e19 e20 e21 e22 e23 e24 e25 e26
                  have h := h e19 e20 e21 e22 e23 e24 e25 e26
                  intro e27
                  have h := h.2
                  exact hX _ _ h
set_option maxRecDepth 100000 in
set_option maxHeartbeats 4000000 in
theorem jfX11_log {I : kx_S → Prop} (W : fw_ I [1005]) {Q : Int32 → kx_S → Prop} (hQ : ∀ y0 y1, I y1 → Q y0 y1) {QX : String → kx_S → Prop} (hX : ∀ y0 y1, I y1 → QX y0 y1) : ∀ (l0 : Nat) (l1 : Int32) (l2 : Int32) (σ : kx_S), I σ → vX11_log l0 l1 l2 σ Q QX := by
  intro l0 l1 l2 σ i
  unfold vX11_log
  intro e1
  refine jfX11_logAt (I := I) (fw_sub W (by decide)) ?_ hX _ _ _ i
  intro b2 σ1 iσ1
  intro v4 e2
  refine ⟨?_, ?_⟩
  · intro e3
    intro e4
    exact hQ _ _ iσ1
  · refine ⟨?_, ?_⟩
    · intro e5
      intro e6
      exact hQ _ _ iσ1
    · refine ⟨?_, ?_⟩
      · intro e7
        intro e8
        exact hQ _ _ iσ1
      · refine ⟨?_, ?_⟩
        · intro e9
          intro e10
          exact hQ _ _ iσ1
        · refine ⟨?_, ?_⟩
          · intro e11
            intro e12
            exact hQ _ _ iσ1
          · refine ⟨?_, ?_⟩
            · intro e13
              intro e14
              exact hQ _ _ iσ1
            · refine ⟨?_, ?_⟩
              · intro e15
                intro e16
                exact hQ _ _ iσ1
              · refine ⟨?_, ?_⟩
                · intro e17
                  intro e18
                  exact hQ _ _ iσ1
                · intro e19 e20 e21 e22 e23 e24 e25 e26
                  intro e27
                  exact hX _ _ ((W _ iσ1).2.2.2.2.2.1 (by decide))
def vX11_cell (l0 : Nat) (l1 : Int32) (l2 : Int32) (l3 : Int32) (σ : kx_S) (Q : Int32 → kx_S → Prop) (QX : String → kx_S → Prop) : Prop := xt σ l0 = 13 → vX11_reachAt l0 l1 σ (fun b2 σ1 => vX11_checkCell b2 l2 σ1 (fun σ4 => xt σ4 b2 = 10 → ∀ a6, xr σ4 163 b2 = some a6 → xt σ4 a6 = 1 → vJx4a65c_get_915e3 a6 l2 σ4 (fun q9 σ8 => ∀ a11, q9 = some a11 → xt σ8 a11 = 3 → ∀ v14, v14 = l3 → ((v14 = 0 → ∀ a16, xr σ8 49 a11 = some a16 → xt σ8 a16 = 1 → vJx4a65c_size_8abf5 a16 σ8 (fun r19 σ18 => Q r19 σ18)) ∧ ((v14 = 1 → (((xi σ8 50 a11) = 0 → Q 0 σ8) ∧ (¬ ((xi σ8 50 a11) = 0) → Q 1 σ8))) ∧ ((v14 = 2 → (((xi σ8 51 a11) = 0 → Q 0 σ8) ∧ (¬ ((xi σ8 51 a11) = 0) → Q 1 σ8))) ∧ (¬ v14 = 0 → ¬ v14 = 1 → ¬ v14 = 2 → xc σ8 < kx_N → QX pz_N (xbump σ8))))))) QX) QX
set_option maxRecDepth 100000 in
set_option maxHeartbeats 4000000 in
theorem jcX11_cell {Q Q' Q'' : Int32 → kx_S → Prop} (hQ : ∀ y0 y1, Q y0 y1 → Q' y0 y1 → Q'' y0 y1) {QX QX' QX'' : String → kx_S → Prop} (hX : ∀ y0 y1, QX y0 y1 → QX' y0 y1 → QX'' y0 y1) : ∀ (l0 : Nat) (l1 : Int32) (l2 : Int32) (l3 : Int32) (σ : kx_S), wX11_cell l0 l1 l2 l3 σ Q QX → vX11_cell l0 l1 l2 l3 σ Q' QX' → wX11_cell l0 l1 l2 l3 σ Q'' QX'' := by
  intro l0 l1 l2 l3 σ h v
  unfold wX11_cell at h
  unfold vX11_cell at v
  unfold wX11_cell
  refine ⟨h.1, ?_⟩
  have v := v h.1
  have h := h.2
  refine jcX11_reachAt ?_ hX _ _ _ h v
  intro b2 σ1 h v
  refine jcX11_checkCell ?_ hX _ _ _ h v
  intro σ4 h v
  refine ⟨h.1, ?_⟩
  have v := v h.1
  have h := h.2
  obtain ⟨a6, e3, h⟩ := h
  refine ⟨a6, e3, ?_⟩
  have v := v a6 e3
  refine ⟨h.1, ?_⟩
  have v := v h.1
  have h := h.2
  refine jcJx4a65c_get_915e3 ?_ _ _ _ h v
  intro q9 σ8 h v
  obtain ⟨a11, e5, h⟩ := h
  refine ⟨a11, e5, ?_⟩
  have v := v a11 e5
  refine ⟨h.1, ?_⟩
  have v := v h.1
  have h := h.2
  intro v14 e7
  have h := h v14 e7
  have v := v v14 e7
  refine ⟨?_, ?_⟩
  · have h := h.1
    have v := v.1
    intro e8
    have h := h e8
    have v := v e8
    obtain ⟨a16, e9, h⟩ := h
    refine ⟨a16, e9, ?_⟩
    have v := v a16 e9
    refine ⟨h.1, ?_⟩
    have v := v h.1
    have h := h.2
    refine jcJx4a65c_size_8abf5 ?_ _ _ h v
    intro r19 σ18 h v
    exact hQ _ _ h v
  · have h := h.2
    have v := v.2
    refine ⟨?_, ?_⟩
    · have h := h.1
      have v := v.1
      intro e11
      have h := h e11
      have v := v e11
      refine ⟨?_, ?_⟩
      · have h := h.1
        have v := v.1
        intro e12
        have h := h e12
        have v := v e12
        exact hQ _ _ h v
      · have h := h.2
        have v := v.2
        intro e13
        have h := h e13
        have v := v e13
        exact hQ _ _ h v
    · have h := h.2
      have v := v.2
      refine ⟨?_, ?_⟩
      · have h := h.1
        have v := v.1
        intro e14
        have h := h e14
        have v := v e14
        refine ⟨?_, ?_⟩
        · have h := h.1
          have v := v.1
          intro e15
          have h := h e15
          have v := v e15
          exact hQ _ _ h v
        · have h := h.2
          have v := v.2
          intro e16
          have h := h e16
          have v := v e16
          exact hQ _ _ h v
      · have h := h.2
        have v := v.2
        intro e17 e18 e19
        have h := h e17 e18 e19
        have v := v e17 e18 e19
        refine ⟨h.1, ?_⟩
        have v := v h.1
        have h := h.2
        exact hX _ _ h v
set_option maxRecDepth 100000 in
set_option maxHeartbeats 4000000 in
theorem jaX11_cell {Q Q' : Int32 → kx_S → Prop} (hQ : ∀ y0 y1, Q y0 y1 → Q' y0 y1) {QX QX' : String → kx_S → Prop} (hX : ∀ y0 y1, QX y0 y1 → QX' y0 y1) : ∀ (l0 : Nat) (l1 : Int32) (l2 : Int32) (l3 : Int32) (σ : kx_S), wX11_cell l0 l1 l2 l3 σ Q QX → vX11_cell l0 l1 l2 l3 σ Q' QX' := by
  intro l0 l1 l2 l3 σ h
  unfold wX11_cell at h
  unfold vX11_cell
  intro e1
  have h := h.2
  refine jaX11_reachAt ?_ hX _ _ _ h
  intro b2 σ1 h
  refine jaX11_checkCell ?_ hX _ _ _ h
  intro σ4 h
  intro e2
  have h := h.2
  obtain ⟨a6', e3, h⟩ := h
  intro a6 e4
  have x9 : a6' = a6 := Option.some.inj (e3.symm.trans e4)
  rw [x9] at h
  intro e5
  have h := h.2
  refine jaJx4a65c_get_915e3 ?_ _ _ _ h
  intro q9 σ8 h
  obtain ⟨a11', e6, h⟩ := h
  intro a11 e7
  have x9 : a11' = a11 := Option.some.inj (e6.symm.trans e7)
  rw [x9] at h
  intro e8
  have h := h.2
  intro v14 e9
  have h := h v14 e9
  refine ⟨?_, ?_⟩
  · have h := h.1
    intro e10
    have h := h e10
    obtain ⟨a16', e11, h⟩ := h
    intro a16 e12
    have x9 : a16' = a16 := Option.some.inj (e11.symm.trans e12)
    rw [x9] at h
    intro e13
    have h := h.2
    refine jaJx4a65c_size_8abf5 ?_ _ _ h
    intro r19 σ18 h
    exact hQ _ _ h
  · have h := h.2
    refine ⟨?_, ?_⟩
    · have h := h.1
      intro e14
      have h := h e14
      refine ⟨?_, ?_⟩
      · have h := h.1
        intro e15
        have h := h e15
        exact hQ _ _ h
      · have h := h.2
        intro e16
        have h := h e16
        exact hQ _ _ h
    · have h := h.2
      refine ⟨?_, ?_⟩
      · have h := h.1
        intro e17
        have h := h e17
        refine ⟨?_, ?_⟩
        · have h := h.1
          intro e18
          have h := h e18
          exact hQ _ _ h
        · have h := h.2
          intro e19
          have h := h e19
          exact hQ _ _ h
      · have h := h.2
        intro e20 e21 e22
        have h := h e20 e21 e22
        intro e23
        have h := h.2
        exact hX _ _ h
set_option maxRecDepth 100000 in
set_option maxHeartbeats 4000000 in
theorem jfX11_cell {I : kx_S → Prop} (W : fw_ I [1005]) {Q : Int32 → kx_S → Prop} (hQ : ∀ y0 y1, I y1 → Q y0 y1) {QX : String → kx_S → Prop} (hX : ∀ y0 y1, I y1 → QX y0 y1) : ∀ (l0 : Nat) (l1 : Int32) (l2 : Int32) (l3 : Int32) (σ : kx_S), I σ → vX11_cell l0 l1 l2 l3 σ Q QX := by
  intro l0 l1 l2 l3 σ i
  unfold vX11_cell
  intro e1
  refine jfX11_reachAt (I := I) (fw_sub W (by decide)) ?_ hX _ _ _ i
  intro b2 σ1 iσ1
  refine jfX11_checkCell (I := I) (fw_sub W (by decide)) ?_ hX _ _ _ iσ1
  intro σ4 iσ4
  intro e2
  intro a6 e3
  intro e4
  refine jfJx4a65c_get_915e3 (I := I) (fw_sub W (by decide)) ?_ _ _ _ iσ4
  intro q9 σ8 iσ8
  intro a11 e5
  intro e6
  intro v14 e7
  refine ⟨?_, ?_⟩
  · intro e8
    intro a16 e9
    intro e10
    refine jfJx4a65c_size_8abf5 (I := I) (fw_sub W (by decide)) ?_ _ _ iσ8
    intro r19 σ18 iσ18
    exact hQ _ _ iσ18
  · refine ⟨?_, ?_⟩
    · intro e11
      refine ⟨?_, ?_⟩
      · intro e12
        exact hQ _ _ iσ8
      · intro e13
        exact hQ _ _ iσ8
    · refine ⟨?_, ?_⟩
      · intro e14
        refine ⟨?_, ?_⟩
        · intro e15
          exact hQ _ _ iσ8
        · intro e16
          exact hQ _ _ iσ8
      · intro e17 e18 e19
        intro e20
        exact hX _ _ ((W _ iσ8).2.2.2.2.2.1 (by decide))
end
section
def vX11_inCell (l0 : Nat) (l1 : Int32) (l2 : Int32) (l3 : Int32) (σ : kx_S) (Q : Int32 → kx_S → Prop) (QX : String → kx_S → Prop) : Prop := xt σ l0 = 13 → vX11_reachAt l0 l1 σ (fun b2 σ1 => vX11_checkCell b2 l2 σ1 (fun σ4 => xt σ4 b2 = 10 → ∀ a6, xr σ4 163 b2 = some a6 → xt σ4 a6 = 1 → vJx4a65c_get_915e3 a6 l2 σ4 (fun q9 σ8 => ∀ a11, q9 = some a11 → xt σ8 a11 = 3 → ∀ a14, xr σ8 49 a11 = some a14 → vX11_numberAt a14 l3 σ8 (fun r17 σ16 => Q r17 σ16))) QX) QX
set_option maxRecDepth 100000 in
set_option maxHeartbeats 4000000 in
theorem jcX11_inCell {Q Q' Q'' : Int32 → kx_S → Prop} (hQ : ∀ y0 y1, Q y0 y1 → Q' y0 y1 → Q'' y0 y1) {QX QX' QX'' : String → kx_S → Prop} (hX : ∀ y0 y1, QX y0 y1 → QX' y0 y1 → QX'' y0 y1) : ∀ (l0 : Nat) (l1 : Int32) (l2 : Int32) (l3 : Int32) (σ : kx_S), wX11_inCell l0 l1 l2 l3 σ Q QX → vX11_inCell l0 l1 l2 l3 σ Q' QX' → wX11_inCell l0 l1 l2 l3 σ Q'' QX'' := by
  intro l0 l1 l2 l3 σ h v
  unfold wX11_inCell at h
  unfold vX11_inCell at v
  unfold wX11_inCell
  refine ⟨h.1, ?_⟩
  have v := v h.1
  have h := h.2
  refine jcX11_reachAt ?_ hX _ _ _ h v
  intro b2 σ1 h v
  refine jcX11_checkCell ?_ hX _ _ _ h v
  intro σ4 h v
  refine ⟨h.1, ?_⟩
  have v := v h.1
  have h := h.2
  obtain ⟨a6, e3, h⟩ := h
  refine ⟨a6, e3, ?_⟩
  have v := v a6 e3
  refine ⟨h.1, ?_⟩
  have v := v h.1
  have h := h.2
  refine jcJx4a65c_get_915e3 ?_ _ _ _ h v
  intro q9 σ8 h v
  obtain ⟨a11, e5, h⟩ := h
  refine ⟨a11, e5, ?_⟩
  have v := v a11 e5
  refine ⟨h.1, ?_⟩
  have v := v h.1
  have h := h.2
  obtain ⟨a14, e7, h⟩ := h
  refine ⟨a14, e7, ?_⟩
  have v := v a14 e7
  refine jcX11_numberAt ?_ _ _ _ h v
  intro r17 σ16 h v
  exact hQ _ _ h v
set_option maxRecDepth 100000 in
set_option maxHeartbeats 4000000 in
theorem jaX11_inCell {Q Q' : Int32 → kx_S → Prop} (hQ : ∀ y0 y1, Q y0 y1 → Q' y0 y1) {QX QX' : String → kx_S → Prop} (hX : ∀ y0 y1, QX y0 y1 → QX' y0 y1) : ∀ (l0 : Nat) (l1 : Int32) (l2 : Int32) (l3 : Int32) (σ : kx_S), wX11_inCell l0 l1 l2 l3 σ Q QX → vX11_inCell l0 l1 l2 l3 σ Q' QX' := by
  intro l0 l1 l2 l3 σ h
  unfold wX11_inCell at h
  unfold vX11_inCell
  intro e1
  have h := h.2
  refine jaX11_reachAt ?_ hX _ _ _ h
  intro b2 σ1 h
  refine jaX11_checkCell ?_ hX _ _ _ h
  intro σ4 h
  intro e2
  have h := h.2
  obtain ⟨a6', e3, h⟩ := h
  intro a6 e4
  have x9 : a6' = a6 := Option.some.inj (e3.symm.trans e4)
  rw [x9] at h
  intro e5
  have h := h.2
  refine jaJx4a65c_get_915e3 ?_ _ _ _ h
  intro q9 σ8 h
  obtain ⟨a11', e6, h⟩ := h
  intro a11 e7
  have x9 : a11' = a11 := Option.some.inj (e6.symm.trans e7)
  rw [x9] at h
  intro e8
  have h := h.2
  obtain ⟨a14', e9, h⟩ := h
  intro a14 e10
  have x9 : a14' = a14 := Option.some.inj (e9.symm.trans e10)
  rw [x9] at h
  refine jaX11_numberAt ?_ _ _ _ h
  intro r17 σ16 h
  exact hQ _ _ h
set_option maxRecDepth 100000 in
set_option maxHeartbeats 4000000 in
theorem jfX11_inCell {I : kx_S → Prop} (W : fw_ I [1005]) {Q : Int32 → kx_S → Prop} (hQ : ∀ y0 y1, I y1 → Q y0 y1) {QX : String → kx_S → Prop} (hX : ∀ y0 y1, I y1 → QX y0 y1) : ∀ (l0 : Nat) (l1 : Int32) (l2 : Int32) (l3 : Int32) (σ : kx_S), I σ → vX11_inCell l0 l1 l2 l3 σ Q QX := by
  intro l0 l1 l2 l3 σ i
  unfold vX11_inCell
  intro e1
  refine jfX11_reachAt (I := I) (fw_sub W (by decide)) ?_ hX _ _ _ i
  intro b2 σ1 iσ1
  refine jfX11_checkCell (I := I) (fw_sub W (by decide)) ?_ hX _ _ _ iσ1
  intro σ4 iσ4
  intro e2
  intro a6 e3
  intro e4
  refine jfJx4a65c_get_915e3 (I := I) (fw_sub W (by decide)) ?_ _ _ _ iσ4
  intro q9 σ8 iσ8
  intro a11 e5
  intro e6
  intro a14 e7
  refine jfX11_numberAt (I := I) (fw_sub W (by decide)) ?_ _ _ _ iσ8
  intro r17 σ16 iσ16
  exact hQ _ _ iσ16
def vX11_heap (l0 : Nat) (l1 : Int32) (l2 : Int32) (σ : kx_S) (Q : Int32 → kx_S → Prop) (QX : String → kx_S → Prop) : Prop := xt σ l0 = 13 → vX11_reachAt l0 l1 σ (fun b2 σ1 => xt σ1 b2 = 10 → ((∀ a6, xr σ1 172 b2 = some a6 → ((¬ l2 = (-1) → ∀ a8, xr σ1 172 b2 = some a8 → xt σ1 a8 = 2 → ∀ a11, xr σ1 32 a8 = some a11 → vX11_numberAt a11 l2 σ1 (fun r14 σ13 => Q r14 σ13)) ∧ (l2 = (-1) → ∀ a15, xr σ1 172 b2 = some a15 → xt σ1 a15 = 2 → ∀ a18, xr σ1 32 a15 = some a18 → xt σ1 a18 = 1 → vJx4a65c_size_8abf5 a18 σ1 (fun r21 σ20 => Q r21 σ20)))) ∧ (xr σ1 172 b2 = none → Q (-1) σ1))) QX
set_option maxRecDepth 100000 in
set_option maxHeartbeats 4000000 in
theorem jcX11_heap {Q Q' Q'' : Int32 → kx_S → Prop} (hQ : ∀ y0 y1, Q y0 y1 → Q' y0 y1 → Q'' y0 y1) {QX QX' QX'' : String → kx_S → Prop} (hX : ∀ y0 y1, QX y0 y1 → QX' y0 y1 → QX'' y0 y1) : ∀ (l0 : Nat) (l1 : Int32) (l2 : Int32) (σ : kx_S), wX11_heap l0 l1 l2 σ Q QX → vX11_heap l0 l1 l2 σ Q' QX' → wX11_heap l0 l1 l2 σ Q'' QX'' := by
  intro l0 l1 l2 σ h v
  unfold wX11_heap at h
  unfold vX11_heap at v
  unfold wX11_heap
  refine ⟨h.1, ?_⟩
  have v := v h.1
  have h := h.2
  refine jcX11_reachAt ?_ hX _ _ _ h v
  intro b2 σ1 h v
  refine ⟨h.1, ?_⟩
  have v := v h.1
  have h := h.2
  refine ⟨?_, ?_⟩
  · have h := h.1
    have v := v.1
    intro a6 e3
    have h := h a6 e3
    have v := v a6 e3
    refine ⟨?_, ?_⟩
    · have h := h.1
      have v := v.1
      intro e4
      have h := h e4
      have v := v e4
      obtain ⟨a8, e5, h⟩ := h
      refine ⟨a8, e5, ?_⟩
      have v := v a8 e5
      refine ⟨h.1, ?_⟩
      have v := v h.1
      have h := h.2
      obtain ⟨a11, e7, h⟩ := h
      refine ⟨a11, e7, ?_⟩
      have v := v a11 e7
      refine jcX11_numberAt ?_ _ _ _ h v
      intro r14 σ13 h v
      exact hQ _ _ h v
    · have h := h.2
      have v := v.2
      intro e8
      have h := h e8
      have v := v e8
      obtain ⟨a15, e9, h⟩ := h
      refine ⟨a15, e9, ?_⟩
      have v := v a15 e9
      refine ⟨h.1, ?_⟩
      have v := v h.1
      have h := h.2
      obtain ⟨a18, e11, h⟩ := h
      refine ⟨a18, e11, ?_⟩
      have v := v a18 e11
      refine ⟨h.1, ?_⟩
      have v := v h.1
      have h := h.2
      refine jcJx4a65c_size_8abf5 ?_ _ _ h v
      intro r21 σ20 h v
      exact hQ _ _ h v
  · have h := h.2
    have v := v.2
    intro e13
    have h := h e13
    have v := v e13
    exact hQ _ _ h v
set_option maxRecDepth 100000 in
set_option maxHeartbeats 4000000 in
theorem jaX11_heap {Q Q' : Int32 → kx_S → Prop} (hQ : ∀ y0 y1, Q y0 y1 → Q' y0 y1) {QX QX' : String → kx_S → Prop} (hX : ∀ y0 y1, QX y0 y1 → QX' y0 y1) : ∀ (l0 : Nat) (l1 : Int32) (l2 : Int32) (σ : kx_S), wX11_heap l0 l1 l2 σ Q QX → vX11_heap l0 l1 l2 σ Q' QX' := by
  intro l0 l1 l2 σ h
  unfold wX11_heap at h
  unfold vX11_heap
  intro e1
  have h := h.2
  refine jaX11_reachAt ?_ hX _ _ _ h
  intro b2 σ1 h
  intro e2
  have h := h.2
  refine ⟨?_, ?_⟩
  · have h := h.1
    intro a6 e3
    have h := h a6 e3
    refine ⟨?_, ?_⟩
    · have h := h.1
      intro e4
      have h := h e4
      obtain ⟨a8', e5, h⟩ := h
      intro a8 e6
      have x9 : a8' = a8 := Option.some.inj (e5.symm.trans e6)
      rw [x9] at h
      intro e7
      have h := h.2
      obtain ⟨a11', e8, h⟩ := h
      intro a11 e9
      have x9 : a11' = a11 := Option.some.inj (e8.symm.trans e9)
      rw [x9] at h
      refine jaX11_numberAt ?_ _ _ _ h
      intro r14 σ13 h
      exact hQ _ _ h
    · have h := h.2
      intro e10
      have h := h e10
      obtain ⟨a15', e11, h⟩ := h
      intro a15 e12
      have x9 : a15' = a15 := Option.some.inj (e11.symm.trans e12)
      rw [x9] at h
      intro e13
      have h := h.2
      obtain ⟨a18', e14, h⟩ := h
      intro a18 e15
      have x9 : a18' = a18 := Option.some.inj (e14.symm.trans e15)
      rw [x9] at h
      intro e16
      have h := h.2
      refine jaJx4a65c_size_8abf5 ?_ _ _ h
      intro r21 σ20 h
      exact hQ _ _ h
  · have h := h.2
    intro e17
    have h := h e17
    exact hQ _ _ h
set_option maxRecDepth 100000 in
set_option maxHeartbeats 4000000 in
theorem jfX11_heap {I : kx_S → Prop} (W : fw_ I [1005]) {Q : Int32 → kx_S → Prop} (hQ : ∀ y0 y1, I y1 → Q y0 y1) {QX : String → kx_S → Prop} (hX : ∀ y0 y1, I y1 → QX y0 y1) : ∀ (l0 : Nat) (l1 : Int32) (l2 : Int32) (σ : kx_S), I σ → vX11_heap l0 l1 l2 σ Q QX := by
  intro l0 l1 l2 σ i
  unfold vX11_heap
  intro e1
  refine jfX11_reachAt (I := I) (fw_sub W (by decide)) ?_ hX _ _ _ i
  intro b2 σ1 iσ1
  intro e2
  refine ⟨?_, ?_⟩
  · intro a6 e3
    refine ⟨?_, ?_⟩
    · intro e4
      intro a8 e5
      intro e6
      intro a11 e7
      refine jfX11_numberAt (I := I) (fw_sub W (by decide)) ?_ _ _ _ iσ1
      intro r14 σ13 iσ13
      exact hQ _ _ iσ13
    · intro e8
      intro a15 e9
      intro e10
      intro a18 e11
      intro e12
      refine jfJx4a65c_size_8abf5 (I := I) (fw_sub W (by decide)) ?_ _ _ iσ1
      intro r21 σ20 iσ20
      exact hQ _ _ iσ20
  · intro e13
    exact hQ _ _ iσ1
def vX11_water (l0 : Nat) (l1 : Int32) (l2 : Int32) (σ : kx_S) (Q : Int32 → kx_S → Prop) (QX : String → kx_S → Prop) : Prop := xt σ l0 = 13 → vX11_reachAt l0 l1 σ (fun b2 σ1 => ∀ v4, v4 = l2 → ((v4 = 0 → xt σ1 b2 = 10 → Q (xi σ1 169 b2) σ1) ∧ ((v4 = 1 → xt σ1 b2 = 10 → Q (xi σ1 170 b2) σ1) ∧ ((v4 = 2 → xt σ1 b2 = 10 → (((xi σ1 165 b2) = 0 → Q (-1) σ1) ∧ (¬ ((xi σ1 165 b2) = 0) → Q (xi σ1 167 b2) σ1))) ∧ ((v4 = 3 → xt σ1 b2 = 10 → ((∀ a15, xr σ1 161 b2 = some a15 → ∀ a16, xr σ1 161 b2 = some a16 → xt σ1 a16 = 10 → Q (xi σ1 160 a16) σ1) ∧ (xr σ1 161 b2 = none → Q (-1) σ1))) ∧ ((v4 = 4 → xt σ1 b2 = 10 → ∀ a21, xr σ1 163 b2 = some a21 → xt σ1 a21 = 1 → vJx4a65c_size_8abf5 a21 σ1 (fun r24 σ23 => Q r24 σ23)) ∧ (¬ v4 = 0 → ¬ v4 = 1 → ¬ v4 = 2 → ¬ v4 = 3 → ¬ v4 = 4 → xc σ1 < kx_N → QX pz_N (xbump σ1)))))))) QX
set_option maxRecDepth 100000 in
set_option maxHeartbeats 4000000 in
theorem jcX11_water {Q Q' Q'' : Int32 → kx_S → Prop} (hQ : ∀ y0 y1, Q y0 y1 → Q' y0 y1 → Q'' y0 y1) {QX QX' QX'' : String → kx_S → Prop} (hX : ∀ y0 y1, QX y0 y1 → QX' y0 y1 → QX'' y0 y1) : ∀ (l0 : Nat) (l1 : Int32) (l2 : Int32) (σ : kx_S), wX11_water l0 l1 l2 σ Q QX → vX11_water l0 l1 l2 σ Q' QX' → wX11_water l0 l1 l2 σ Q'' QX'' := by
  intro l0 l1 l2 σ h v
  unfold wX11_water at h
  unfold vX11_water at v
  unfold wX11_water
  refine ⟨h.1, ?_⟩
  have v := v h.1
  have h := h.2
  refine jcX11_reachAt ?_ hX _ _ _ h v
  intro b2 σ1 h v
  intro v4 e2
  have h := h v4 e2
  have v := v v4 e2
  refine ⟨?_, ?_⟩
  · have h := h.1
    have v := v.1
    intro e3
    have h := h e3
    have v := v e3
    refine ⟨h.1, ?_⟩
    have v := v h.1
    have h := h.2
    exact hQ _ _ h v
  · have h := h.2
    have v := v.2
    refine ⟨?_, ?_⟩
    · have h := h.1
      have v := v.1
      intro e5
      have h := h e5
      have v := v e5
      refine ⟨h.1, ?_⟩
      have v := v h.1
      have h := h.2
      exact hQ _ _ h v
    · have h := h.2
      have v := v.2
      refine ⟨?_, ?_⟩
      · have h := h.1
        have v := v.1
        intro e7
        have h := h e7
        have v := v e7
        refine ⟨h.1, ?_⟩
        have v := v h.1
        have h := h.2
        refine ⟨?_, ?_⟩
        · have h := h.1
          have v := v.1
          intro e9
          have h := h e9
          have v := v e9
          exact hQ _ _ h v
        · have h := h.2
          have v := v.2
          intro e10
          have h := h e10
          have v := v e10
          exact hQ _ _ h v
      · have h := h.2
        have v := v.2
        refine ⟨?_, ?_⟩
        · have h := h.1
          have v := v.1
          intro e11
          have h := h e11
          have v := v e11
          refine ⟨h.1, ?_⟩
          have v := v h.1
          have h := h.2
          refine ⟨?_, ?_⟩
          · have h := h.1
            have v := v.1
            intro a15 e13
            have h := h a15 e13
            have v := v a15 e13
            obtain ⟨a16, e14, h⟩ := h
            refine ⟨a16, e14, ?_⟩
            have v := v a16 e14
            refine ⟨h.1, ?_⟩
            have v := v h.1
            have h := h.2
            exact hQ _ _ h v
          · have h := h.2
            have v := v.2
            intro e16
            have h := h e16
            have v := v e16
            exact hQ _ _ h v
        · have h := h.2
          have v := v.2
          refine ⟨?_, ?_⟩
          · have h := h.1
            have v := v.1
            intro e17
            have h := h e17
            have v := v e17
            refine ⟨h.1, ?_⟩
            have v := v h.1
            have h := h.2
            obtain ⟨a21, e19, h⟩ := h
            refine ⟨a21, e19, ?_⟩
            have v := v a21 e19
            refine ⟨h.1, ?_⟩
            have v := v h.1
            have h := h.2
            refine jcJx4a65c_size_8abf5 ?_ _ _ h v
            intro r24 σ23 h v
            exact hQ _ _ h v
          · have h := h.2
            have v := v.2
            intro e21 e22 e23 e24 e25
            have h := h e21 e22 e23 e24 e25
            have v := v e21 e22 e23 e24 e25
            refine ⟨h.1, ?_⟩
            have v := v h.1
            have h := h.2
            exact hX _ _ h v
set_option maxRecDepth 100000 in
set_option maxHeartbeats 4000000 in
theorem jaX11_water {Q Q' : Int32 → kx_S → Prop} (hQ : ∀ y0 y1, Q y0 y1 → Q' y0 y1) {QX QX' : String → kx_S → Prop} (hX : ∀ y0 y1, QX y0 y1 → QX' y0 y1) : ∀ (l0 : Nat) (l1 : Int32) (l2 : Int32) (σ : kx_S), wX11_water l0 l1 l2 σ Q QX → vX11_water l0 l1 l2 σ Q' QX' := by
  intro l0 l1 l2 σ h
  unfold wX11_water at h
  unfold vX11_water
  intro e1
  have h := h.2
  refine jaX11_reachAt ?_ hX _ _ _ h
  intro b2 σ1 h
  intro v4 e2
  have h := h v4 e2
  refine ⟨?_, ?_⟩
  · have h := h.1
    intro e3
    have h := h e3
    intro e4
    have h := h.2
    exact hQ _ _ h
  · have h := h.2
    refine ⟨?_, ?_⟩
    · have h := h.1
      intro e5
      have h := h e5
      intro e6
      have h := h.2
      exact hQ _ _ h
    · have h := h.2
      refine ⟨?_, ?_⟩
      · have h := h.1
        intro e7
        have h := h e7
        intro e8
        have h := h.2
        refine ⟨?_, ?_⟩
        · have h := h.1
          intro e9
          have h := h e9
          exact hQ _ _ h
        · have h := h.2
          intro e10
          have h := h e10
          exact hQ _ _ h
      · have h := h.2
        refine ⟨?_, ?_⟩
        · have h := h.1
          intro e11
          have h := h e11
          intro e12
          have h := h.2
          refine ⟨?_, ?_⟩
          · have h := h.1
            intro a15 e13
            have h := h a15 e13
            obtain ⟨a16', e14, h⟩ := h
            intro a16 e15
            have x9 : a16' = a16 := Option.some.inj (e14.symm.trans e15)
            rw [x9] at h
            intro e16
            have h := h.2
            exact hQ _ _ h
          · have h := h.2
            intro e17
            have h := h e17
            exact hQ _ _ h
        · have h := h.2
          refine ⟨?_, ?_⟩
          · have h := h.1
            intro e18
            have h := h e18
            intro e19
            have h := h.2
            obtain ⟨a21', e20, h⟩ := h
            intro a21 e21
            have x9 : a21' = a21 := Option.some.inj (e20.symm.trans e21)
            rw [x9] at h
            intro e22
            have h := h.2
            refine jaJx4a65c_size_8abf5 ?_ _ _ h
            intro r24 σ23 h
            exact hQ _ _ h
          · have h := h.2
            intro e23 e24 e25 e26 e27
            have h := h e23 e24 e25 e26 e27
            intro e28
            have h := h.2
            exact hX _ _ h
set_option maxRecDepth 100000 in
set_option maxHeartbeats 4000000 in
theorem jfX11_water {I : kx_S → Prop} (W : fw_ I [1005]) {Q : Int32 → kx_S → Prop} (hQ : ∀ y0 y1, I y1 → Q y0 y1) {QX : String → kx_S → Prop} (hX : ∀ y0 y1, I y1 → QX y0 y1) : ∀ (l0 : Nat) (l1 : Int32) (l2 : Int32) (σ : kx_S), I σ → vX11_water l0 l1 l2 σ Q QX := by
  intro l0 l1 l2 σ i
  unfold vX11_water
  intro e1
  refine jfX11_reachAt (I := I) (fw_sub W (by decide)) ?_ hX _ _ _ i
  intro b2 σ1 iσ1
  intro v4 e2
  refine ⟨?_, ?_⟩
  · intro e3
    intro e4
    exact hQ _ _ iσ1
  · refine ⟨?_, ?_⟩
    · intro e5
      intro e6
      exact hQ _ _ iσ1
    · refine ⟨?_, ?_⟩
      · intro e7
        intro e8
        refine ⟨?_, ?_⟩
        · intro e9
          exact hQ _ _ iσ1
        · intro e10
          exact hQ _ _ iσ1
      · refine ⟨?_, ?_⟩
        · intro e11
          intro e12
          refine ⟨?_, ?_⟩
          · intro a15 e13
            intro a16 e14
            intro e15
            exact hQ _ _ iσ1
          · intro e16
            exact hQ _ _ iσ1
        · refine ⟨?_, ?_⟩
          · intro e17
            intro e18
            intro a21 e19
            intro e20
            refine jfJx4a65c_size_8abf5 (I := I) (fw_sub W (by decide)) ?_ _ _ iσ1
            intro r24 σ23 iσ23
            exact hQ _ _ iσ23
          · intro e21 e22 e23 e24 e25
            intro e26
            exact hX _ _ ((W _ iσ1).2.2.2.2.2.1 (by decide))
def vX11_waters (l0 : Nat) (l1 : Int32) (σ : kx_S) (Q : Int64 → kx_S → Prop) (QX : String → kx_S → Prop) : Prop := ∀ v1, v1 = l1 → ((v1 = 0 → xt σ l0 = 13 → Q (xl σ 220 l0) σ) ∧ ((v1 = 1 → xt σ l0 = 13 → Q (xl σ 221 l0) σ) ∧ (¬ v1 = 0 → ¬ v1 = 1 → xc σ < kx_N → QX pz_N (xbump σ))))
set_option maxRecDepth 100000 in
set_option maxHeartbeats 4000000 in
theorem jcX11_waters {Q Q' Q'' : Int64 → kx_S → Prop} (hQ : ∀ y0 y1, Q y0 y1 → Q' y0 y1 → Q'' y0 y1) {QX QX' QX'' : String → kx_S → Prop} (hX : ∀ y0 y1, QX y0 y1 → QX' y0 y1 → QX'' y0 y1) : ∀ (l0 : Nat) (l1 : Int32) (σ : kx_S), wX11_waters l0 l1 σ Q QX → vX11_waters l0 l1 σ Q' QX' → wX11_waters l0 l1 σ Q'' QX'' := by
  intro l0 l1 σ h v
  unfold wX11_waters at h
  unfold vX11_waters at v
  unfold wX11_waters
  intro v1 e1
  have h := h v1 e1
  have v := v v1 e1
  refine ⟨?_, ?_⟩
  · have h := h.1
    have v := v.1
    intro e2
    have h := h e2
    have v := v e2
    refine ⟨h.1, ?_⟩
    have v := v h.1
    have h := h.2
    exact hQ _ _ h v
  · have h := h.2
    have v := v.2
    refine ⟨?_, ?_⟩
    · have h := h.1
      have v := v.1
      intro e4
      have h := h e4
      have v := v e4
      refine ⟨h.1, ?_⟩
      have v := v h.1
      have h := h.2
      exact hQ _ _ h v
    · have h := h.2
      have v := v.2
      intro e6 e7
      have h := h e6 e7
      have v := v e6 e7
      refine ⟨h.1, ?_⟩
      have v := v h.1
      have h := h.2
      exact hX _ _ h v
set_option maxRecDepth 100000 in
set_option maxHeartbeats 4000000 in
theorem jaX11_waters {Q Q' : Int64 → kx_S → Prop} (hQ : ∀ y0 y1, Q y0 y1 → Q' y0 y1) {QX QX' : String → kx_S → Prop} (hX : ∀ y0 y1, QX y0 y1 → QX' y0 y1) : ∀ (l0 : Nat) (l1 : Int32) (σ : kx_S), wX11_waters l0 l1 σ Q QX → vX11_waters l0 l1 σ Q' QX' := by
  intro l0 l1 σ h
  unfold wX11_waters at h
  unfold vX11_waters
  intro v1 e1
  have h := h v1 e1
  refine ⟨?_, ?_⟩
  · have h := h.1
    intro e2
    have h := h e2
    intro e3
    have h := h.2
    exact hQ _ _ h
  · have h := h.2
    refine ⟨?_, ?_⟩
    · have h := h.1
      intro e4
      have h := h e4
      intro e5
      have h := h.2
      exact hQ _ _ h
    · have h := h.2
      intro e6 e7
      have h := h e6 e7
      intro e8
      have h := h.2
      exact hX _ _ h
set_option maxRecDepth 100000 in
set_option maxHeartbeats 4000000 in
theorem jfX11_waters {I : kx_S → Prop} (W : fw_ I [1005]) {Q : Int64 → kx_S → Prop} (hQ : ∀ y0 y1, I y1 → Q y0 y1) {QX : String → kx_S → Prop} (hX : ∀ y0 y1, I y1 → QX y0 y1) : ∀ (l0 : Nat) (l1 : Int32) (σ : kx_S), I σ → vX11_waters l0 l1 σ Q QX := by
  intro l0 l1 σ i
  unfold vX11_waters
  intro v1 e1
  refine ⟨?_, ?_⟩
  · intro e2
    intro e3
    exact hQ _ _ i
  · refine ⟨?_, ?_⟩
    · intro e4
      intro e5
      exact hQ _ _ i
    · intro e6 e7
      intro e8
      exact hX _ _ ((W _ i).2.2.2.2.2.1 (by decide))
def vX11_board_61 (k2 : Nat → Int32 → Int32 → kx_S → Prop) (Q : Int32 → kx_S → Prop) (QX : String → kx_S → Prop) (l0 : Nat) (l1 : Int32) (l2 : Int32) (σ : kx_S) : Prop := ∀ v1 : Int32, v1 = l2 + 1 → k2 l0 l1 v1 σ
set_option maxRecDepth 100000 in
set_option maxHeartbeats 4000000 in
theorem jcX11_board_61 {k2 k2' k2'' : Nat → Int32 → Int32 → kx_S → Prop} (hk2 : ∀ y0 y1 y2 y3, k2 y0 y1 y2 y3 → k2' y0 y1 y2 y3 → k2'' y0 y1 y2 y3) {Q Q' Q'' : Int32 → kx_S → Prop} (hQ : ∀ y0 y1, Q y0 y1 → Q' y0 y1 → Q'' y0 y1) {QX QX' QX'' : String → kx_S → Prop} (hX : ∀ y0 y1, QX y0 y1 → QX' y0 y1 → QX'' y0 y1) : ∀ (l0 : Nat) (l1 : Int32) (l2 : Int32) (σ : kx_S), wX11_board_61 k2 Q QX l0 l1 l2 σ → vX11_board_61 k2' Q' QX' l0 l1 l2 σ → wX11_board_61 k2'' Q'' QX'' l0 l1 l2 σ := by
  intro l0 l1 l2 σ h v
  unfold wX11_board_61 at h
  unfold vX11_board_61 at v
  unfold wX11_board_61
  intro v1 e1
  have h := h v1 e1
  have v := v v1 e1
  exact hk2 _ _ _ _ h v
set_option maxRecDepth 100000 in
set_option maxHeartbeats 4000000 in
theorem jaX11_board_61 {k2 k2' : Nat → Int32 → Int32 → kx_S → Prop} (hk2 : ∀ y0 y1 y2 y3, k2 y0 y1 y2 y3 → k2' y0 y1 y2 y3) {Q Q' : Int32 → kx_S → Prop} (hQ : ∀ y0 y1, Q y0 y1 → Q' y0 y1) {QX QX' : String → kx_S → Prop} (hX : ∀ y0 y1, QX y0 y1 → QX' y0 y1) : ∀ (l0 : Nat) (l1 : Int32) (l2 : Int32) (σ : kx_S), wX11_board_61 k2 Q QX l0 l1 l2 σ → vX11_board_61 k2' Q' QX' l0 l1 l2 σ := by
  intro l0 l1 l2 σ h
  unfold wX11_board_61 at h
  unfold vX11_board_61
  intro v1 e1
  have h := h v1 e1
  exact hk2 _ _ _ _ h
set_option maxRecDepth 100000 in
set_option maxHeartbeats 4000000 in
theorem jfX11_board_61 {I : kx_S → Prop} (W : fw_ I []) {k2 : Nat → Int32 → Int32 → kx_S → Prop} (hk2 : ∀ y0 y1 y2 y3, I y3 → k2 y0 y1 y2 y3) {Q : Int32 → kx_S → Prop} (hQ : ∀ y0 y1, I y1 → Q y0 y1) {QX : String → kx_S → Prop} (hX : ∀ y0 y1, I y1 → QX y0 y1) : ∀ (l0 : Nat) (l1 : Int32) (l2 : Int32) (σ : kx_S), I σ → vX11_board_61 k2 Q QX l0 l1 l2 σ := by
  intro l0 l1 l2 σ i
  unfold vX11_board_61
  intro v1 e1
  exact hk2 _ _ _ _ i
def vX11_board_67 (Q : Int32 → kx_S → Prop) (QX : String → kx_S → Prop) (σ : kx_S) : Prop := xc σ < kx_N → QX pz_N (xbump σ)
set_option maxRecDepth 100000 in
set_option maxHeartbeats 4000000 in
theorem jcX11_board_67 {Q Q' Q'' : Int32 → kx_S → Prop} (hQ : ∀ y0 y1, Q y0 y1 → Q' y0 y1 → Q'' y0 y1) {QX QX' QX'' : String → kx_S → Prop} (hX : ∀ y0 y1, QX y0 y1 → QX' y0 y1 → QX'' y0 y1) : ∀ (σ : kx_S), wX11_board_67 Q QX σ → vX11_board_67 Q' QX' σ → wX11_board_67 Q'' QX'' σ := by
  intro σ h v
  unfold wX11_board_67 at h
  unfold vX11_board_67 at v
  unfold wX11_board_67
  refine ⟨h.1, ?_⟩
  have v := v h.1
  have h := h.2
  exact hX _ _ h v
set_option maxRecDepth 100000 in
set_option maxHeartbeats 4000000 in
theorem jaX11_board_67 {Q Q' : Int32 → kx_S → Prop} (hQ : ∀ y0 y1, Q y0 y1 → Q' y0 y1) {QX QX' : String → kx_S → Prop} (hX : ∀ y0 y1, QX y0 y1 → QX' y0 y1) : ∀ (σ : kx_S), wX11_board_67 Q QX σ → vX11_board_67 Q' QX' σ := by
  intro σ h
  unfold wX11_board_67 at h
  unfold vX11_board_67
  intro e1
  have h := h.2
  exact hX _ _ h
set_option maxRecDepth 100000 in
set_option maxHeartbeats 4000000 in
theorem jfX11_board_67 {I : kx_S → Prop} (W : fw_ I [1005]) {Q : Int32 → kx_S → Prop} (hQ : ∀ y0 y1, I y1 → Q y0 y1) {QX : String → kx_S → Prop} (hX : ∀ y0 y1, I y1 → QX y0 y1) : ∀ (σ : kx_S), I σ → vX11_board_67 Q QX σ := by
  intro σ i
  unfold vX11_board_67
  intro e1
  exact hX _ _ ((W _ i).2.2.2.2.2.1 (by decide))
def vX11_board_2 (k67 : kx_S → Prop) (Q : Int32 → kx_S → Prop) (QX : String → kx_S → Prop) : Nat → Nat → Int32 → Int32 → kx_S → Prop
  | 0, _, _, _, _ => True
  | n + 1, l0, l1, l2, σ => xt σ l0 = 13 → ∀ a4, xr σ 209 l0 = some a4 → xt σ a4 = 1 → vJx4a65c_size_8abf5 a4 σ (fun r7 σ6 => ((r7 ≤ l2 → k67 σ6) ∧ (¬ (r7 ≤ l2) → xt σ6 l0 = 13 → ∀ a11, xr σ6 209 l0 = some a11 → xt σ6 a11 = 1 → vJx4a65c_get_915e3 a11 l2 σ6 (fun q14 σ13 => ∀ a16, q14 = some a16 → xt σ13 a16 = 8 → (((xi σ13 136 a16) = (-1) → vX11_board_61 (vX11_board_2 k67 Q QX n) Q QX l0 l1 l2 σ13) ∧ (¬ ((xi σ13 136 a16) = (-1)) → vX11_isWithin l1 (xi σ13 136 a16) (((xi σ13 136 a16) + (xi σ13 130 a16)) - 1) σ13 (fun r21 σ20 => ((r21 = 0 → vX11_board_61 (vX11_board_2 k67 Q QX n) Q QX l0 l1 l2 σ20) ∧ (¬ (r21 = 0) → Q l2 σ20)))))))))
set_option maxRecDepth 100000 in
set_option maxHeartbeats 4000000 in
theorem jcX11_board_2 {k67 k67' k67'' : kx_S → Prop} (hk67 : ∀ y0, k67 y0 → k67' y0 → k67'' y0) {Q Q' Q'' : Int32 → kx_S → Prop} (hQ : ∀ y0 y1, Q y0 y1 → Q' y0 y1 → Q'' y0 y1) {QX QX' QX'' : String → kx_S → Prop} (hX : ∀ y0 y1, QX y0 y1 → QX' y0 y1 → QX'' y0 y1) : ∀ (n : Nat) (l0 : Nat) (l1 : Int32) (l2 : Int32) (σ : kx_S), wX11_board_2 k67 Q QX n l0 l1 l2 σ → vX11_board_2 k67' Q' QX' n l0 l1 l2 σ → wX11_board_2 k67'' Q'' QX'' n l0 l1 l2 σ := by
  intro n
  induction n with
  | zero => intro l0 l1 l2 σ h; exact h.elim
  | succ n ih =>
    intro l0 l1 l2 σ h v
    unfold wX11_board_2 at h
    unfold vX11_board_2 at v
    unfold wX11_board_2
    refine ⟨h.1, ?_⟩
    have v := v h.1
    have h := h.2
    obtain ⟨a4, e2, h⟩ := h
    refine ⟨a4, e2, ?_⟩
    have v := v a4 e2
    refine ⟨h.1, ?_⟩
    have v := v h.1
    have h := h.2
    refine jcJx4a65c_size_8abf5 ?_ _ _ h v
    intro r7 σ6 h v
    refine ⟨?_, ?_⟩
    · have h := h.1
      have v := v.1
      intro e4
      have h := h e4
      have v := v e4
      exact hk67 _ h v
    · have h := h.2
      have v := v.2
      intro e5
      have h := h e5
      have v := v e5
      refine ⟨h.1, ?_⟩
      have v := v h.1
      have h := h.2
      obtain ⟨a11, e7, h⟩ := h
      refine ⟨a11, e7, ?_⟩
      have v := v a11 e7
      refine ⟨h.1, ?_⟩
      have v := v h.1
      have h := h.2
      refine jcJx4a65c_get_915e3 ?_ _ _ _ h v
      intro q14 σ13 h v
      obtain ⟨a16, e9, h⟩ := h
      refine ⟨a16, e9, ?_⟩
      have v := v a16 e9
      refine ⟨h.1, ?_⟩
      have v := v h.1
      have h := h.2
      refine ⟨?_, ?_⟩
      · have h := h.1
        have v := v.1
        intro e11
        have h := h e11
        have v := v e11
        exact jcX11_board_61 (k2 := wX11_board_2 k67 Q QX n) (k2' := vX11_board_2 k67' Q' QX' n) (k2'' := wX11_board_2 k67'' Q'' QX'' n) (fun _ _ _ _ h v => ih _ _ _ _ h v) hQ hX _ _ _ _ h v
      · have h := h.2
        have v := v.2
        intro e12
        have h := h e12
        have v := v e12
        refine jcX11_isWithin ?_ _ _ _ _ h v
        intro r21 σ20 h v
        refine ⟨?_, ?_⟩
        · have h := h.1
          have v := v.1
          intro e13
          have h := h e13
          have v := v e13
          exact jcX11_board_61 (k2 := wX11_board_2 k67 Q QX n) (k2' := vX11_board_2 k67' Q' QX' n) (k2'' := wX11_board_2 k67'' Q'' QX'' n) (fun _ _ _ _ h v => ih _ _ _ _ h v) hQ hX _ _ _ _ h v
        · have h := h.2
          have v := v.2
          intro e14
          have h := h e14
          have v := v e14
          exact hQ _ _ h v
set_option maxRecDepth 100000 in
set_option maxHeartbeats 4000000 in
theorem jaX11_board_2 {k67 k67' : kx_S → Prop} (hk67 : ∀ y0, k67 y0 → k67' y0) {Q Q' : Int32 → kx_S → Prop} (hQ : ∀ y0 y1, Q y0 y1 → Q' y0 y1) {QX QX' : String → kx_S → Prop} (hX : ∀ y0 y1, QX y0 y1 → QX' y0 y1) : ∀ (n m : Nat) (l0 : Nat) (l1 : Int32) (l2 : Int32) (σ : kx_S), wX11_board_2 k67 Q QX n l0 l1 l2 σ → vX11_board_2 k67' Q' QX' m l0 l1 l2 σ := by
  intro n
  induction n with
  | zero => intro m l0 l1 l2 σ h; exact h.elim
  | succ n ih =>
    intro m l0 l1 l2 σ h
    cases m with
    | zero => exact trivial
    | succ m =>
      unfold wX11_board_2 at h
      unfold vX11_board_2
      intro e1
      have h := h.2
      obtain ⟨a4', e2, h⟩ := h
      intro a4 e3
      have x9 : a4' = a4 := Option.some.inj (e2.symm.trans e3)
      rw [x9] at h
      intro e4
      have h := h.2
      refine jaJx4a65c_size_8abf5 ?_ _ _ h
      intro r7 σ6 h
      refine ⟨?_, ?_⟩
      · have h := h.1
        intro e5
        have h := h e5
        exact hk67 _ h
      · have h := h.2
        intro e6
        have h := h e6
        intro e7
        have h := h.2
        obtain ⟨a11', e8, h⟩ := h
        intro a11 e9
        have x9 : a11' = a11 := Option.some.inj (e8.symm.trans e9)
        rw [x9] at h
        intro e10
        have h := h.2
        refine jaJx4a65c_get_915e3 ?_ _ _ _ h
        intro q14 σ13 h
        obtain ⟨a16', e11, h⟩ := h
        intro a16 e12
        have x9 : a16' = a16 := Option.some.inj (e11.symm.trans e12)
        rw [x9] at h
        intro e13
        have h := h.2
        refine ⟨?_, ?_⟩
        · have h := h.1
          intro e14
          have h := h e14
          exact jaX11_board_61 (k2 := wX11_board_2 k67 Q QX n) (k2' := vX11_board_2 k67' Q' QX' m) (fun _ _ _ _ h => ih m _ _ _ _ h) hQ hX _ _ _ _ h
        · have h := h.2
          intro e15
          have h := h e15
          refine jaX11_isWithin ?_ _ _ _ _ h
          intro r21 σ20 h
          refine ⟨?_, ?_⟩
          · have h := h.1
            intro e16
            have h := h e16
            exact jaX11_board_61 (k2 := wX11_board_2 k67 Q QX n) (k2' := vX11_board_2 k67' Q' QX' m) (fun _ _ _ _ h => ih m _ _ _ _ h) hQ hX _ _ _ _ h
          · have h := h.2
            intro e17
            have h := h e17
            exact hQ _ _ h
set_option maxRecDepth 100000 in
set_option maxHeartbeats 4000000 in
theorem jfX11_board_2 {I : kx_S → Prop} (W : fw_ I []) {k67 : kx_S → Prop} (hk67 : ∀ y0, I y0 → k67 y0) {Q : Int32 → kx_S → Prop} (hQ : ∀ y0 y1, I y1 → Q y0 y1) {QX : String → kx_S → Prop} (hX : ∀ y0 y1, I y1 → QX y0 y1) : ∀ (n : Nat) (l0 : Nat) (l1 : Int32) (l2 : Int32) (σ : kx_S), I σ → vX11_board_2 k67 Q QX n l0 l1 l2 σ := by
  intro n
  induction n with
  | zero => intro l0 l1 l2 σ i; exact trivial
  | succ n ih =>
    intro l0 l1 l2 σ i
    unfold vX11_board_2
    intro e1
    intro a4 e2
    intro e3
    refine jfJx4a65c_size_8abf5 (I := I) (fw_sub W (by decide)) ?_ _ _ i
    intro r7 σ6 iσ6
    refine ⟨?_, ?_⟩
    · intro e4
      exact hk67 _ iσ6
    · intro e5
      intro e6
      intro a11 e7
      intro e8
      refine jfJx4a65c_get_915e3 (I := I) (fw_sub W (by decide)) ?_ _ _ _ iσ6
      intro q14 σ13 iσ13
      intro a16 e9
      intro e10
      refine ⟨?_, ?_⟩
      · intro e11
        exact jfX11_board_61 (I := I) (fw_sub W (by decide)) (k2 := vX11_board_2 k67 Q QX n) (fun _ _ _ _ i => ih _ _ _ _ i) hQ hX _ _ _ _ iσ13
      · intro e12
        refine jfX11_isWithin (I := I) (fw_sub W (by decide)) ?_ _ _ _ _ iσ13
        intro r21 σ20 iσ20
        refine ⟨?_, ?_⟩
        · intro e13
          exact jfX11_board_61 (I := I) (fw_sub W (by decide)) (k2 := vX11_board_2 k67 Q QX n) (fun _ _ _ _ i => ih _ _ _ _ i) hQ hX _ _ _ _ iσ20
        · intro e14
          exact hQ _ _ iσ20
def vX11_board (l0 : Nat) (l1 : Int32) (σ : kx_S) (Q : Int32 → kx_S → Prop) (QX : String → kx_S → Prop) : Prop := ∀ j, vX11_board_2 (vX11_board_67 Q QX) Q QX j l0 l1 0 σ
set_option maxRecDepth 100000 in
set_option maxHeartbeats 4000000 in
theorem jcX11_board {Q Q' Q'' : Int32 → kx_S → Prop} (hQ : ∀ y0 y1, Q y0 y1 → Q' y0 y1 → Q'' y0 y1) {QX QX' QX'' : String → kx_S → Prop} (hX : ∀ y0 y1, QX y0 y1 → QX' y0 y1 → QX'' y0 y1) : ∀ (l0 : Nat) (l1 : Int32) (σ : kx_S), wX11_board l0 l1 σ Q QX → vX11_board l0 l1 σ Q' QX' → wX11_board l0 l1 σ Q'' QX'' := by
  intro l0 l1 σ h v
  unfold wX11_board at h
  unfold vX11_board at v
  unfold wX11_board
  obtain ⟨j, h⟩ := h
  refine ⟨j, ?_⟩
  have v := v j
  exact jcX11_board_2 (k67 := wX11_board_67 Q QX) (k67' := vX11_board_67 Q' QX') (k67'' := wX11_board_67 Q'' QX'') (fun _ h v => jcX11_board_67 hQ hX _ h v) hQ hX _ _ _ _ _ h v
set_option maxRecDepth 100000 in
set_option maxHeartbeats 4000000 in
theorem jaX11_board {Q Q' : Int32 → kx_S → Prop} (hQ : ∀ y0 y1, Q y0 y1 → Q' y0 y1) {QX QX' : String → kx_S → Prop} (hX : ∀ y0 y1, QX y0 y1 → QX' y0 y1) : ∀ (l0 : Nat) (l1 : Int32) (σ : kx_S), wX11_board l0 l1 σ Q QX → vX11_board l0 l1 σ Q' QX' := by
  intro l0 l1 σ h
  unfold wX11_board at h
  unfold vX11_board
  obtain ⟨j, h⟩ := h
  intro j9
  exact jaX11_board_2 (k67 := wX11_board_67 Q QX) (k67' := vX11_board_67 Q' QX') (fun _ h => jaX11_board_67 hQ hX _ h) hQ hX _ j9 _ _ _ _ h
set_option maxRecDepth 100000 in
set_option maxHeartbeats 4000000 in
theorem jfX11_board {I : kx_S → Prop} (W : fw_ I [1005]) {Q : Int32 → kx_S → Prop} (hQ : ∀ y0 y1, I y1 → Q y0 y1) {QX : String → kx_S → Prop} (hX : ∀ y0 y1, I y1 → QX y0 y1) : ∀ (l0 : Nat) (l1 : Int32) (σ : kx_S), I σ → vX11_board l0 l1 σ Q QX := by
  intro l0 l1 σ i
  unfold vX11_board
  intro j
  exact jfX11_board_2 (I := I) (fw_sub W (by decide)) (k67 := vX11_board_67 Q QX) (fun _ i => jfX11_board_67 (I := I) (fw_sub W (by decide)) hQ hX _ i) hQ hX _ _ _ _ _ i
def vX11_paid (l0 : Nat) (l1 : Int32) (σ : kx_S) (Q : Int64 → kx_S → Prop) (QX : String → kx_S → Prop) : Prop := vX11_isWithin l1 0 15 σ (fun r2 σ1 => ((¬ r2 = 0 → xt σ1 l0 = 13 → ∀ a5, xr σ1 216 l0 = some a5 → xt σ1 a5 = 21 → vp_in l1 (xn σ1 a5) → Q (xal σ1 a5 l1.toNatClampNeg) σ1) ∧ (r2 = 0 → xc σ1 < kx_N → QX pz_N (xbump σ1))))
set_option maxRecDepth 100000 in
set_option maxHeartbeats 4000000 in
theorem jcX11_paid {Q Q' Q'' : Int64 → kx_S → Prop} (hQ : ∀ y0 y1, Q y0 y1 → Q' y0 y1 → Q'' y0 y1) {QX QX' QX'' : String → kx_S → Prop} (hX : ∀ y0 y1, QX y0 y1 → QX' y0 y1 → QX'' y0 y1) : ∀ (l0 : Nat) (l1 : Int32) (σ : kx_S), wX11_paid l0 l1 σ Q QX → vX11_paid l0 l1 σ Q' QX' → wX11_paid l0 l1 σ Q'' QX'' := by
  intro l0 l1 σ h v
  unfold wX11_paid at h
  unfold vX11_paid at v
  unfold wX11_paid
  refine jcX11_isWithin ?_ _ _ _ _ h v
  intro r2 σ1 h v
  refine ⟨?_, ?_⟩
  · have h := h.1
    have v := v.1
    intro e1
    have h := h e1
    have v := v e1
    refine ⟨h.1, ?_⟩
    have v := v h.1
    have h := h.2
    obtain ⟨a5, e3, h⟩ := h
    refine ⟨a5, e3, ?_⟩
    have v := v a5 e3
    refine ⟨h.1, ?_⟩
    have v := v h.1
    have h := h.2
    refine ⟨h.1, ?_⟩
    have v := v h.1
    have h := h.2
    exact hQ _ _ h v
  · have h := h.2
    have v := v.2
    intro e6
    have h := h e6
    have v := v e6
    refine ⟨h.1, ?_⟩
    have v := v h.1
    have h := h.2
    exact hX _ _ h v
set_option maxRecDepth 100000 in
set_option maxHeartbeats 4000000 in
theorem jaX11_paid {Q Q' : Int64 → kx_S → Prop} (hQ : ∀ y0 y1, Q y0 y1 → Q' y0 y1) {QX QX' : String → kx_S → Prop} (hX : ∀ y0 y1, QX y0 y1 → QX' y0 y1) : ∀ (l0 : Nat) (l1 : Int32) (σ : kx_S), wX11_paid l0 l1 σ Q QX → vX11_paid l0 l1 σ Q' QX' := by
  intro l0 l1 σ h
  unfold wX11_paid at h
  unfold vX11_paid
  refine jaX11_isWithin ?_ _ _ _ _ h
  intro r2 σ1 h
  refine ⟨?_, ?_⟩
  · have h := h.1
    intro e1
    have h := h e1
    intro e2
    have h := h.2
    obtain ⟨a5', e3, h⟩ := h
    intro a5 e4
    have x9 : a5' = a5 := Option.some.inj (e3.symm.trans e4)
    rw [x9] at h
    intro e5
    have h := h.2
    intro e6
    have h := h.2
    exact hQ _ _ h
  · have h := h.2
    intro e7
    have h := h e7
    intro e8
    have h := h.2
    exact hX _ _ h
set_option maxRecDepth 100000 in
set_option maxHeartbeats 4000000 in
theorem jfX11_paid {I : kx_S → Prop} (W : fw_ I [1005]) {Q : Int64 → kx_S → Prop} (hQ : ∀ y0 y1, I y1 → Q y0 y1) {QX : String → kx_S → Prop} (hX : ∀ y0 y1, I y1 → QX y0 y1) : ∀ (l0 : Nat) (l1 : Int32) (σ : kx_S), I σ → vX11_paid l0 l1 σ Q QX := by
  intro l0 l1 σ i
  unfold vX11_paid
  refine jfX11_isWithin (I := I) (fw_sub W (by decide)) ?_ _ _ _ _ i
  intro r2 σ1 iσ1
  refine ⟨?_, ?_⟩
  · intro e1
    intro e2
    intro a5 e3
    intro e4
    intro e5
    exact hQ _ _ iσ1
  · intro e6
    intro e7
    exact hX _ _ ((W _ iσ1).2.2.2.2.2.1 (by decide))
def vX11_countJams_90 (k93 : Nat → Int32 → Int32 → Int32 → Nat → Int32 → kx_S → Prop) (Q : Int32 → kx_S → Prop) (l0 : Nat) (l1 : Int32) (l2 : Int32) (l3 : Int32) (l4 : Nat) (l5 : Int32) (σ : kx_S) : Prop := ∀ v1 : Int32, v1 = l2 + 1 → k93 l0 l1 v1 l3 l4 l5 σ
set_option maxRecDepth 100000 in
set_option maxHeartbeats 4000000 in
theorem jcX11_countJams_90 {k93 k93' k93'' : Nat → Int32 → Int32 → Int32 → Nat → Int32 → kx_S → Prop} (hk93 : ∀ y0 y1 y2 y3 y4 y5 y6, k93 y0 y1 y2 y3 y4 y5 y6 → k93' y0 y1 y2 y3 y4 y5 y6 → k93'' y0 y1 y2 y3 y4 y5 y6) {Q Q' Q'' : Int32 → kx_S → Prop} (hQ : ∀ y0 y1, Q y0 y1 → Q' y0 y1 → Q'' y0 y1) : ∀ (l0 : Nat) (l1 : Int32) (l2 : Int32) (l3 : Int32) (l4 : Nat) (l5 : Int32) (σ : kx_S), wX11_countJams_90 k93 Q l0 l1 l2 l3 l4 l5 σ → vX11_countJams_90 k93' Q' l0 l1 l2 l3 l4 l5 σ → wX11_countJams_90 k93'' Q'' l0 l1 l2 l3 l4 l5 σ := by
  intro l0 l1 l2 l3 l4 l5 σ h v
  unfold wX11_countJams_90 at h
  unfold vX11_countJams_90 at v
  unfold wX11_countJams_90
  intro v1 e1
  have h := h v1 e1
  have v := v v1 e1
  exact hk93 _ _ _ _ _ _ _ h v
set_option maxRecDepth 100000 in
set_option maxHeartbeats 4000000 in
theorem jaX11_countJams_90 {k93 k93' : Nat → Int32 → Int32 → Int32 → Nat → Int32 → kx_S → Prop} (hk93 : ∀ y0 y1 y2 y3 y4 y5 y6, k93 y0 y1 y2 y3 y4 y5 y6 → k93' y0 y1 y2 y3 y4 y5 y6) {Q Q' : Int32 → kx_S → Prop} (hQ : ∀ y0 y1, Q y0 y1 → Q' y0 y1) : ∀ (l0 : Nat) (l1 : Int32) (l2 : Int32) (l3 : Int32) (l4 : Nat) (l5 : Int32) (σ : kx_S), wX11_countJams_90 k93 Q l0 l1 l2 l3 l4 l5 σ → vX11_countJams_90 k93' Q' l0 l1 l2 l3 l4 l5 σ := by
  intro l0 l1 l2 l3 l4 l5 σ h
  unfold wX11_countJams_90 at h
  unfold vX11_countJams_90
  intro v1 e1
  have h := h v1 e1
  exact hk93 _ _ _ _ _ _ _ h
set_option maxRecDepth 100000 in
set_option maxHeartbeats 4000000 in
theorem jfX11_countJams_90 {I : kx_S → Prop} (W : fw_ I []) {k93 : Nat → Int32 → Int32 → Int32 → Nat → Int32 → kx_S → Prop} (hk93 : ∀ y0 y1 y2 y3 y4 y5 y6, I y6 → k93 y0 y1 y2 y3 y4 y5 y6) {Q : Int32 → kx_S → Prop} (hQ : ∀ y0 y1, I y1 → Q y0 y1) : ∀ (l0 : Nat) (l1 : Int32) (l2 : Int32) (l3 : Int32) (l4 : Nat) (l5 : Int32) (σ : kx_S), I σ → vX11_countJams_90 k93 Q l0 l1 l2 l3 l4 l5 σ := by
  intro l0 l1 l2 l3 l4 l5 σ i
  unfold vX11_countJams_90
  intro v1 e1
  exact hk93 _ _ _ _ _ _ _ i
def vX11_countJams_99 (k4 : Nat → Int32 → Int32 → Int32 → kx_S → Prop) (Q : Int32 → kx_S → Prop) (l0 : Nat) (l1 : Int32) (l2 : Int32) (l3 : Int32) (σ : kx_S) : Prop := ∀ v2 : Int32, v2 = l3 + 1 → k4 l0 l1 l2 v2 σ
set_option maxRecDepth 100000 in
set_option maxHeartbeats 4000000 in
theorem jcX11_countJams_99 {k4 k4' k4'' : Nat → Int32 → Int32 → Int32 → kx_S → Prop} (hk4 : ∀ y0 y1 y2 y3 y4, k4 y0 y1 y2 y3 y4 → k4' y0 y1 y2 y3 y4 → k4'' y0 y1 y2 y3 y4) {Q Q' Q'' : Int32 → kx_S → Prop} (hQ : ∀ y0 y1, Q y0 y1 → Q' y0 y1 → Q'' y0 y1) : ∀ (l0 : Nat) (l1 : Int32) (l2 : Int32) (l3 : Int32) (σ : kx_S), wX11_countJams_99 k4 Q l0 l1 l2 l3 σ → vX11_countJams_99 k4' Q' l0 l1 l2 l3 σ → wX11_countJams_99 k4'' Q'' l0 l1 l2 l3 σ := by
  intro l0 l1 l2 l3 σ h v
  unfold wX11_countJams_99 at h
  unfold vX11_countJams_99 at v
  unfold wX11_countJams_99
  intro v2 e1
  have h := h v2 e1
  have v := v v2 e1
  exact hk4 _ _ _ _ _ h v
set_option maxRecDepth 100000 in
set_option maxHeartbeats 4000000 in
theorem jaX11_countJams_99 {k4 k4' : Nat → Int32 → Int32 → Int32 → kx_S → Prop} (hk4 : ∀ y0 y1 y2 y3 y4, k4 y0 y1 y2 y3 y4 → k4' y0 y1 y2 y3 y4) {Q Q' : Int32 → kx_S → Prop} (hQ : ∀ y0 y1, Q y0 y1 → Q' y0 y1) : ∀ (l0 : Nat) (l1 : Int32) (l2 : Int32) (l3 : Int32) (σ : kx_S), wX11_countJams_99 k4 Q l0 l1 l2 l3 σ → vX11_countJams_99 k4' Q' l0 l1 l2 l3 σ := by
  intro l0 l1 l2 l3 σ h
  unfold wX11_countJams_99 at h
  unfold vX11_countJams_99
  intro v2 e1
  have h := h v2 e1
  exact hk4 _ _ _ _ _ h
set_option maxRecDepth 100000 in
set_option maxHeartbeats 4000000 in
theorem jfX11_countJams_99 {I : kx_S → Prop} (W : fw_ I []) {k4 : Nat → Int32 → Int32 → Int32 → kx_S → Prop} (hk4 : ∀ y0 y1 y2 y3 y4, I y4 → k4 y0 y1 y2 y3 y4) {Q : Int32 → kx_S → Prop} (hQ : ∀ y0 y1, I y1 → Q y0 y1) : ∀ (l0 : Nat) (l1 : Int32) (l2 : Int32) (l3 : Int32) (σ : kx_S), I σ → vX11_countJams_99 k4 Q l0 l1 l2 l3 σ := by
  intro l0 l1 l2 l3 σ i
  unfold vX11_countJams_99
  intro v2 e1
  exact hk4 _ _ _ _ _ i
def vX11_countJams_93 (k35 : Nat → Int32 → Int32 → Int32 → Nat → Int32 → kx_S → Prop) (Q : Int32 → kx_S → Prop) (l0 : Nat) (l1 : Int32) (l2 : Int32) (l3 : Int32) (l4 : Nat) (l5 : Int32) (σ : kx_S) : Prop := ∀ v3 : Int32, v3 = l5 + 1 → k35 l0 l1 l2 l3 l4 v3 σ
set_option maxRecDepth 100000 in
set_option maxHeartbeats 4000000 in
theorem jcX11_countJams_93 {k35 k35' k35'' : Nat → Int32 → Int32 → Int32 → Nat → Int32 → kx_S → Prop} (hk35 : ∀ y0 y1 y2 y3 y4 y5 y6, k35 y0 y1 y2 y3 y4 y5 y6 → k35' y0 y1 y2 y3 y4 y5 y6 → k35'' y0 y1 y2 y3 y4 y5 y6) {Q Q' Q'' : Int32 → kx_S → Prop} (hQ : ∀ y0 y1, Q y0 y1 → Q' y0 y1 → Q'' y0 y1) : ∀ (l0 : Nat) (l1 : Int32) (l2 : Int32) (l3 : Int32) (l4 : Nat) (l5 : Int32) (σ : kx_S), wX11_countJams_93 k35 Q l0 l1 l2 l3 l4 l5 σ → vX11_countJams_93 k35' Q' l0 l1 l2 l3 l4 l5 σ → wX11_countJams_93 k35'' Q'' l0 l1 l2 l3 l4 l5 σ := by
  intro l0 l1 l2 l3 l4 l5 σ h v
  unfold wX11_countJams_93 at h
  unfold vX11_countJams_93 at v
  unfold wX11_countJams_93
  intro v3 e1
  have h := h v3 e1
  have v := v v3 e1
  exact hk35 _ _ _ _ _ _ _ h v
set_option maxRecDepth 100000 in
set_option maxHeartbeats 4000000 in
theorem jaX11_countJams_93 {k35 k35' : Nat → Int32 → Int32 → Int32 → Nat → Int32 → kx_S → Prop} (hk35 : ∀ y0 y1 y2 y3 y4 y5 y6, k35 y0 y1 y2 y3 y4 y5 y6 → k35' y0 y1 y2 y3 y4 y5 y6) {Q Q' : Int32 → kx_S → Prop} (hQ : ∀ y0 y1, Q y0 y1 → Q' y0 y1) : ∀ (l0 : Nat) (l1 : Int32) (l2 : Int32) (l3 : Int32) (l4 : Nat) (l5 : Int32) (σ : kx_S), wX11_countJams_93 k35 Q l0 l1 l2 l3 l4 l5 σ → vX11_countJams_93 k35' Q' l0 l1 l2 l3 l4 l5 σ := by
  intro l0 l1 l2 l3 l4 l5 σ h
  unfold wX11_countJams_93 at h
  unfold vX11_countJams_93
  intro v3 e1
  have h := h v3 e1
  exact hk35 _ _ _ _ _ _ _ h
set_option maxRecDepth 100000 in
set_option maxHeartbeats 4000000 in
theorem jfX11_countJams_93 {I : kx_S → Prop} (W : fw_ I []) {k35 : Nat → Int32 → Int32 → Int32 → Nat → Int32 → kx_S → Prop} (hk35 : ∀ y0 y1 y2 y3 y4 y5 y6, I y6 → k35 y0 y1 y2 y3 y4 y5 y6) {Q : Int32 → kx_S → Prop} (hQ : ∀ y0 y1, I y1 → Q y0 y1) : ∀ (l0 : Nat) (l1 : Int32) (l2 : Int32) (l3 : Int32) (l4 : Nat) (l5 : Int32) (σ : kx_S), I σ → vX11_countJams_93 k35 Q l0 l1 l2 l3 l4 l5 σ := by
  intro l0 l1 l2 l3 l4 l5 σ i
  unfold vX11_countJams_93
  intro v3 e1
  exact hk35 _ _ _ _ _ _ _ i
end

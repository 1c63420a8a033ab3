def vX11_melt (l0 : Nat) (l1 : Int32) (l2 : Int32) (σ : kx_S) (Q : Int32 → kx_S → Prop) (QX : String → kx_S → Prop) : Prop := xt σ l0 = 13 → vX11_reachAt l0 l1 σ (fun b2 σ1 => vX11_isWithin l2 0 500 σ1 (fun r5 σ4 => ((¬ r5 = 0 → xt σ4 b2 = 10 → ∀ v8, v8 = xi σ4 164 b2 → ∀ σ9, σ9 = xsi σ4 164 b2 l2 → Q v8 σ9) ∧ (r5 = 0 → Q (-1) σ4)))) QX
set_option maxRecDepth 100000 in
set_option maxHeartbeats 4000000 in
theorem jcX11_melt {Q Q' Q'' : Int32 → kx_S → Prop} (hQ : ∀ y0 y1, Q y0 y1 → Q' y0 y1 → Q'' y0 y1) {QX QX' QX'' : String → kx_S → Prop} (hX : ∀ y0 y1, QX y0 y1 → QX' y0 y1 → QX'' y0 y1) : ∀ (l0 : Nat) (l1 : Int32) (l2 : Int32) (σ : kx_S), wX11_melt l0 l1 l2 σ Q QX → vX11_melt l0 l1 l2 σ Q' QX' → wX11_melt l0 l1 l2 σ Q'' QX'' := by
  intro l0 l1 l2 σ h v
  unfold wX11_melt at h
  unfold vX11_melt at v
  unfold wX11_melt
  refine ⟨h.1, ?_⟩
  have v := v h.1
  have h := h.2
  refine jcX11_reachAt ?_ hX _ _ _ h v
  intro b2 σ1 h v
  refine jcX11_isWithin ?_ _ _ _ _ h v
  intro r5 σ4 h v
  refine ⟨?_, ?_⟩
  · have h := h.1
    have v := v.1
    intro e2
    have h := h e2
    have v := v e2
    refine ⟨h.1, ?_⟩
    have v := v h.1
    have h := h.2
    intro v8 e4
    have h := h v8 e4
    have v := v v8 e4
    intro σ9 e5
    have h := h σ9 e5
    have v := v σ9 e5
    exact hQ _ _ h v
  · have h := h.2
    have v := v.2
    intro e6
    have h := h e6
    have v := v e6
    exact hQ _ _ h v
set_option maxRecDepth 100000 in
set_option maxHeartbeats 4000000 in
theorem jaX11_melt {Q Q' : Int32 → kx_S → Prop} (hQ : ∀ y0 y1, Q y0 y1 → Q' y0 y1) {QX QX' : String → kx_S → Prop} (hX : ∀ y0 y1, QX y0 y1 → QX' y0 y1) : ∀ (l0 : Nat) (l1 : Int32) (l2 : Int32) (σ : kx_S), wX11_melt l0 l1 l2 σ Q QX → vX11_melt l0 l1 l2 σ Q' QX' := by
  intro l0 l1 l2 σ h
  unfold wX11_melt at h
  unfold vX11_melt
  intro e1
  have h := h.2
  refine jaX11_reachAt ?_ hX _ _ _ h
  intro b2 σ1 h
  refine jaX11_isWithin ?_ _ _ _ _ h
  intro r5 σ4 h
  refine ⟨?_, ?_⟩
  · have h := h.1
    intro e2
    have h := h e2
    intro e3
    have h := h.2
    intro v8 e4
    have h := h v8 e4
    intro σ9 e5
    have h := h σ9 e5
    exact hQ _ _ h
  · have h := h.2
    intro e6
    have h := h e6
    exact hQ _ _ h
set_option maxRecDepth 100000 in
set_option maxHeartbeats 4000000 in
theorem jfX11_melt {I : kx_S → Prop} (W : fw_ I [164, 1005]) {Q : Int32 → kx_S → Prop} (hQ : ∀ y0 y1, I y1 → Q y0 y1) {QX : String → kx_S → Prop} (hX : ∀ y0 y1, I y1 → QX y0 y1) : ∀ (l0 : Nat) (l1 : Int32) (l2 : Int32) (σ : kx_S), I σ → vX11_melt l0 l1 l2 σ Q QX := by
  intro l0 l1 l2 σ i
  unfold vX11_melt
  intro e1
  refine jfX11_reachAt (I := I) (fw_sub W (by decide)) ?_ hX _ _ _ i
  intro b2 σ1 iσ1
  refine jfX11_isWithin (I := I) (fw_sub W (by decide)) ?_ _ _ _ _ iσ1
  intro r5 σ4 iσ4
  refine ⟨?_, ?_⟩
  · intro e2
    intro e3
    intro v8 e4
    intro σ9 e5
    have iσ9 : I σ9 := by rw [e5]; exact ((W _ iσ4).1 164 (by decide)).1 _ _
    exact hQ _ _ iσ9
  · intro e6
    exact hQ _ _ iσ4
def vX11_boom_39 (Q : Int32 → kx_S → Prop) (QX : String → kx_S → Prop) (l2 : Int32) (l3 : Int32) (l4 : Nat) (σ : kx_S) : Prop := xt σ l4 = 10 → ∀ a2, xr σ 172 l4 = some a2 → xt σ a2 = 2 → ∀ σ5, σ5 = xsi σ 34 a2 (l2 &&& 65535) → ∀ a8, xr σ5 172 l4 = some a8 → xt σ5 a8 = 2 → ∀ σ11, σ11 = xsi σ5 35 a8 l3 → Q 1 σ11
set_option maxRecDepth 100000 in
set_option maxHeartbeats 4000000 in
theorem jcX11_boom_39 {Q Q' Q'' : Int32 → kx_S → Prop} (hQ : ∀ y0 y1, Q y0 y1 → Q' y0 y1 → Q'' y0 y1) {QX QX' QX'' : String → kx_S → Prop} (hX : ∀ y0 y1, QX y0 y1 → QX' y0 y1 → QX'' y0 y1) : ∀ (l2 : Int32) (l3 : Int32) (l4 : Nat) (σ : kx_S), wX11_boom_39 Q QX l2 l3 l4 σ → vX11_boom_39 Q' QX' l2 l3 l4 σ → wX11_boom_39 Q'' QX'' l2 l3 l4 σ := by
  intro l2 l3 l4 σ h v
  unfold wX11_boom_39 at h
  unfold vX11_boom_39 at v
  unfold wX11_boom_39
  refine ⟨h.1, ?_⟩
  have v := v h.1
  have h := h.2
  obtain ⟨a2, e2, h⟩ := h
  refine ⟨a2, e2, ?_⟩
  have v := v a2 e2
  refine ⟨h.1, ?_⟩
  have v := v h.1
  have h := h.2
  intro σ5 e4
  have h := h σ5 e4
  have v := v σ5 e4
  obtain ⟨a8, e5, h⟩ := h
  refine ⟨a8, e5, ?_⟩
  have v := v a8 e5
  refine ⟨h.1, ?_⟩
  have v := v h.1
  have h := h.2
  intro σ11 e7
  have h := h σ11 e7
  have v := v σ11 e7
  exact hQ _ _ h v
set_option maxRecDepth 100000 in
set_option maxHeartbeats 4000000 in
theorem jaX11_boom_39 {Q Q' : Int32 → kx_S → Prop} (hQ : ∀ y0 y1, Q y0 y1 → Q' y0 y1) {QX QX' : String → kx_S → Prop} (hX : ∀ y0 y1, QX y0 y1 → QX' y0 y1) : ∀ (l2 : Int32) (l3 : Int32) (l4 : Nat) (σ : kx_S), wX11_boom_39 Q QX l2 l3 l4 σ → vX11_boom_39 Q' QX' l2 l3 l4 σ := by
  intro l2 l3 l4 σ h
  unfold wX11_boom_39 at h
  unfold vX11_boom_39
  intro e1
  have h := h.2
  obtain ⟨a2', e2, h⟩ := h
  intro a2 e3
  have x9 : a2' = a2 := Option.some.inj (e2.symm.trans e3)
  rw [x9] at h
  intro e4
  have h := h.2
  intro σ5 e5
  have h := h σ5 e5
  obtain ⟨a8', e6, h⟩ := h
  intro a8 e7
  have x9 : a8' = a8 := Option.some.inj (e6.symm.trans e7)
  rw [x9] at h
  intro e8
  have h := h.2
  intro σ11 e9
  have h := h σ11 e9
  exact hQ _ _ h
set_option maxRecDepth 100000 in
set_option maxHeartbeats 4000000 in
theorem jfX11_boom_39 {I : kx_S → Prop} (W : fw_ I [34, 35]) {Q : Int32 → kx_S → Prop} (hQ : ∀ y0 y1, I y1 → Q y0 y1) {QX : String → kx_S → Prop} (hX : ∀ y0 y1, I y1 → QX y0 y1) : ∀ (l2 : Int32) (l3 : Int32) (l4 : Nat) (σ : kx_S), I σ → vX11_boom_39 Q QX l2 l3 l4 σ := by
  intro l2 l3 l4 σ i
  unfold vX11_boom_39
  intro e1
  intro a2 e2
  intro e3
  intro σ5 e4
  have iσ5 : I σ5 := by rw [e4]; exact ((W _ i).1 34 (by decide)).1 _ _
  intro a8 e5
  intro e6
  intro σ11 e7
  have iσ11 : I σ11 := by rw [e7]; exact ((W _ iσ5).1 35 (by decide)).1 _ _
  exact hQ _ _ iσ11
def vX11_boom (l0 : Nat) (l1 : Int32) (l2 : Int32) (l3 : Int32) (σ : kx_S) (Q : Int32 → kx_S → Prop) (QX : String → kx_S → Prop) : Prop := xt σ l0 = 13 → vX11_reachAt l0 l1 σ (fun b16 σ15 => vX11_isWithin l3 1 100 σ15 (fun r19 σ18 => ((¬ r19 = 0 → xt σ18 b16 = 10 → ((∀ a23, xr σ18 172 b16 = some a23 → vX11_boom_39 Q QX l2 l3 b16 σ18) ∧ (xr σ18 172 b16 = none → xc σ18 < kx_N → ∀ p25, xt σ18 p25 = 0 → p25 ≠ xz σ18 → ∀ σ28, σ28 = xnew σ18 p25 2 → vX0_init p25 σ28 (fun σ30 => xt σ30 b16 = 10 → ∀ σ32, σ32 = xsr σ30 172 b16 (some p25) → vX11_boom_39 Q QX l2 l3 b16 σ32)))) ∧ (r19 = 0 → Q 0 σ18)))) QX
set_option maxRecDepth 100000 in
set_option maxHeartbeats 4000000 in
theorem jcX11_boom {Q Q' Q'' : Int32 → kx_S → Prop} (hQ : ∀ y0 y1, Q y0 y1 → Q' y0 y1 → Q'' y0 y1) {QX QX' QX'' : String → kx_S → Prop} (hX : ∀ y0 y1, QX y0 y1 → QX' y0 y1 → QX'' y0 y1) : ∀ (l0 : Nat) (l1 : Int32) (l2 : Int32) (l3 : Int32) (σ : kx_S), wX11_boom l0 l1 l2 l3 σ Q QX → vX11_boom l0 l1 l2 l3 σ Q' QX' → wX11_boom l0 l1 l2 l3 σ Q'' QX'' := by
  intro l0 l1 l2 l3 σ h v
  unfold wX11_boom at h
  unfold vX11_boom at v
  unfold wX11_boom
  refine ⟨h.1, ?_⟩
  have v := v h.1
  have h := h.2
  refine jcX11_reachAt ?_ hX _ _ _ h v
  intro b16 σ15 h v
  refine jcX11_isWithin ?_ _ _ _ _ h v
  intro r19 σ18 h v
  refine ⟨?_, ?_⟩
  · have h := h.1
    have v := v.1
    intro e2
    have h := h e2
    have v := v e2
    refine ⟨h.1, ?_⟩
    have v := v h.1
    have h := h.2
    refine ⟨?_, ?_⟩
    · have h := h.1
      have v := v.1
      intro a23 e4
      have h := h a23 e4
      have v := v a23 e4
      exact jcX11_boom_39 hQ hX _ _ _ _ h v
    · have h := h.2
      have v := v.2
      intro e5
      have h := h e5
      have v := v e5
      refine ⟨h.1, ?_⟩
      have v := v h.1
      have h := h.2
      intro p25 e7 e8
      have h := h p25 e7 e8
      have v := v p25 e7 e8
      intro σ28 e9
      have h := h σ28 e9
      have v := v σ28 e9
      refine jcX0_init ?_ _ _ h v
      intro σ30 h v
      refine ⟨h.1, ?_⟩
      have v := v h.1
      have h := h.2
      intro σ32 e11
      have h := h σ32 e11
      have v := v σ32 e11
      exact jcX11_boom_39 hQ hX _ _ _ _ h v
  · have h := h.2
    have v := v.2
    intro e12
    have h := h e12
    have v := v e12
    exact hQ _ _ h v
set_option maxRecDepth 100000 in
set_option maxHeartbeats 4000000 in
theorem jaX11_boom {Q Q' : Int32 → kx_S → Prop} (hQ : ∀ y0 y1, Q y0 y1 → Q' y0 y1) {QX QX' : String → kx_S → Prop} (hX : ∀ y0 y1, QX y0 y1 → QX' y0 y1) : ∀ (l0 : Nat) (l1 : Int32) (l2 : Int32) (l3 : Int32) (σ : kx_S), wX11_boom l0 l1 l2 l3 σ Q QX → vX11_boom l0 l1 l2 l3 σ Q' QX' := by
  intro l0 l1 l2 l3 σ h
  unfold wX11_boom at h
  unfold vX11_boom
  intro e1
  have h := h.2
  refine jaX11_reachAt ?_ hX _ _ _ h
  intro b16 σ15 h
  refine jaX11_isWithin ?_ _ _ _ _ h
  intro r19 σ18 h
  refine ⟨?_, ?_⟩
  · have h := h.1
    intro e2
    have h := h e2
    intro e3
    have h := h.2
    refine ⟨?_, ?_⟩
    · have h := h.1
      intro a23 e4
      have h := h a23 e4
      exact jaX11_boom_39 hQ hX _ _ _ _ h
    · have h := h.2
      intro e5
      have h := h e5
      intro e6
      have h := h.2
      intro p25 e7 e8
      have h := h p25 e7 e8
      intro σ28 e9
      have h := h σ28 e9
      refine jaX0_init ?_ _ _ h
      intro σ30 h
      intro e10
      have h := h.2
      intro σ32 e11
      have h := h σ32 e11
      exact jaX11_boom_39 hQ hX _ _ _ _ h
  · have h := h.2
    intro e12
    have h := h e12
    exact hQ _ _ h
set_option maxRecDepth 100000 in
set_option maxHeartbeats 4000000 in
theorem jfX11_boom {I : kx_S → Prop} (W : fw_ I [16, 17, 32, 33, 34, 35, 172, 1005, 1101, 1102]) {Q : Int32 → kx_S → Prop} (hQ : ∀ y0 y1, I y1 → Q y0 y1) {QX : String → kx_S → Prop} (hX : ∀ y0 y1, I y1 → QX y0 y1) : ∀ (l0 : Nat) (l1 : Int32) (l2 : Int32) (l3 : Int32) (σ : kx_S), I σ → vX11_boom l0 l1 l2 l3 σ Q QX := by
  intro l0 l1 l2 l3 σ i
  unfold vX11_boom
  intro e1
  refine jfX11_reachAt (I := I) (fw_sub W (by decide)) ?_ hX _ _ _ i
  intro b16 σ15 iσ15
  refine jfX11_isWithin (I := I) (fw_sub W (by decide)) ?_ _ _ _ _ iσ15
  intro r19 σ18 iσ18
  refine ⟨?_, ?_⟩
  · intro e2
    intro e3
    refine ⟨?_, ?_⟩
    · intro a23 e4
      exact jfX11_boom_39 (I := I) (fw_sub W (by decide)) hQ hX _ _ _ _ iσ18
    · intro e5
      intro e6
      intro p25 e7 e8
      intro σ28 e9
      have iσ28 : I σ28 := by rw [e9]; exact (W _ iσ18).2.2.2.2.2.2.1 2 (by decide) _ e7
      refine jfX0_init (I := I) (fw_sub W (by decide)) ?_ _ _ iσ28
      intro σ30 iσ30
      intro e10
      intro σ32 e11
      have iσ32 : I σ32 := by rw [e11]; exact ((W _ iσ30).1 172 (by decide)).2.1 _ _
      exact jfX11_boom_39 (I := I) (fw_sub W (by decide)) hQ hX _ _ _ _ iσ32
  · intro e12
    exact hQ _ _ iσ18
def vX11_watch (l0 : Nat) (l1 : Int32) (l2 : Int32) (σ : kx_S) (Q : Int32 → kx_S → Prop) (QX : String → kx_S → Prop) : Prop := xt σ l0 = 13 → vX11_reachAt l0 l1 σ (fun b2 σ1 => xt σ1 b2 = 10 → ∀ v5, v5 = xi σ1 171 b2 → ((narrow .boolean (.int l2) = .int l2 ∧ fits .boolean (.int l2) = true)) → ∀ σ7, σ7 = xsi σ1 171 b2 l2 → narrow .boolean (.int v5) = .int v5 → Q v5 σ7) QX
set_option maxRecDepth 100000 in
set_option maxHeartbeats 4000000 in
theorem jcX11_watch {Q Q' Q'' : Int32 → kx_S → Prop} (hQ : ∀ y0 y1, Q y0 y1 → Q' y0 y1 → Q'' y0 y1) {QX QX' QX'' : String → kx_S → Prop} (hX : ∀ y0 y1, QX y0 y1 → QX' y0 y1 → QX'' y0 y1) : ∀ (l0 : Nat) (l1 : Int32) (l2 : Int32) (σ : kx_S), wX11_watch l0 l1 l2 σ Q QX → vX11_watch l0 l1 l2 σ Q' QX' → wX11_watch l0 l1 l2 σ Q'' QX'' := by
  intro l0 l1 l2 σ h v
  unfold wX11_watch at h
  unfold vX11_watch at v
  unfold wX11_watch
  refine ⟨h.1, ?_⟩
  have v := v h.1
  have h := h.2
  refine jcX11_reachAt ?_ hX _ _ _ h v
  intro b2 σ1 h v
  refine ⟨h.1, ?_⟩
  have v := v h.1
  have h := h.2
  intro v5 e3
  have h := h v5 e3
  have v := v v5 e3
  refine ⟨h.1, ?_⟩
  have v := v h.1
  have h := h.2
  intro σ7 e5
  have h := h σ7 e5
  have v := v σ7 e5
  refine ⟨h.1, ?_⟩
  have v := v h.1
  have h := h.2
  exact hQ _ _ h v
set_option maxRecDepth 100000 in
set_option maxHeartbeats 4000000 in
theorem jaX11_watch {Q Q' : Int32 → kx_S → Prop} (hQ : ∀ y0 y1, Q y0 y1 → Q' y0 y1) {QX QX' : String → kx_S → Prop} (hX : ∀ y0 y1, QX y0 y1 → QX' y0 y1) : ∀ (l0 : Nat) (l1 : Int32) (l2 : Int32) (σ : kx_S), wX11_watch l0 l1 l2 σ Q QX → vX11_watch l0 l1 l2 σ Q' QX' := by
  intro l0 l1 l2 σ h
  unfold wX11_watch at h
  unfold vX11_watch
  intro e1
  have h := h.2
  refine jaX11_reachAt ?_ hX _ _ _ h
  intro b2 σ1 h
  intro e2
  have h := h.2
  intro v5 e3
  have h := h v5 e3
  intro e4
  have h := h.2
  intro σ7 e5
  have h := h σ7 e5
  intro e6
  have h := h.2
  exact hQ _ _ h
set_option maxRecDepth 100000 in
set_option maxHeartbeats 4000000 in
theorem jfX11_watch {I : kx_S → Prop} (W : fw_ I [171, 1005]) {Q : Int32 → kx_S → Prop} (hQ : ∀ y0 y1, I y1 → Q y0 y1) {QX : String → kx_S → Prop} (hX : ∀ y0 y1, I y1 → QX y0 y1) : ∀ (l0 : Nat) (l1 : Int32) (l2 : Int32) (σ : kx_S), I σ → vX11_watch l0 l1 l2 σ Q QX := by
  intro l0 l1 l2 σ i
  unfold vX11_watch
  intro e1
  refine jfX11_reachAt (I := I) (fw_sub W (by decide)) ?_ hX _ _ _ i
  intro b2 σ1 iσ1
  intro e2
  intro v5 e3
  intro e4
  intro σ7 e5
  have iσ7 : I σ7 := by rw [e5]; exact ((W _ iσ1).1 171 (by decide)).1 _ _
  intro e6
  exact hQ _ _ iσ7
def vX11_newCrew (l0 : Nat) (l1 : Nat) (σ : kx_S) (Q : Int32 → kx_S → Prop) : Prop := xt σ l0 = 13 → ∀ a2, xr σ 211 l0 = some a2 → xt σ a2 = 1 → vJx4a65c_size_8abf5 a2 σ (fun r5 σ4 => ((r5 < 6 → xt σ4 l0 = 13 → ∀ a9, xr σ4 211 l0 = some a9 → xc σ4 < kx_N → ∀ p12, xt σ4 p12 = 0 → p12 ≠ xz σ4 → ∀ σ15, σ15 = xnew σ4 p12 4 → xt σ15 l0 = 13 → vX2_init p12 l1 (xi σ15 217 l0) σ15 (fun σ18 => xt σ18 a9 = 1 → vJx4a65c_add_9ea2d a9 p12 σ18 (fun r20 σ19 => xt σ19 l0 = 13 → ∀ a23, xr σ19 211 l0 = some a23 → xt σ19 a23 = 1 → vJx4a65c_size_8abf5 a23 σ19 (fun r26 σ25 => Q (r26 - 1) σ25)))) ∧ (¬ (r5 < 6) → Q (-1) σ4)))
set_option maxRecDepth 100000 in
set_option maxHeartbeats 4000000 in
theorem jcX11_newCrew {Q Q' Q'' : Int32 → kx_S → Prop} (hQ : ∀ y0 y1, Q y0 y1 → Q' y0 y1 → Q'' y0 y1) : ∀ (l0 : Nat) (l1 : Nat) (σ : kx_S), wX11_newCrew l0 l1 σ Q → vX11_newCrew l0 l1 σ Q' → wX11_newCrew l0 l1 σ Q'' := by
  intro l0 l1 σ h v
  unfold wX11_newCrew at h
  unfold vX11_newCrew at v
  unfold wX11_newCrew
  refine ⟨h.1, ?_⟩
  have v := v h.1
  have h := h.2
  obtain ⟨a2, e2, h⟩ := h
  refine ⟨a2, e2, ?_⟩
  have v := v a2 e2
  refine ⟨h.1, ?_⟩
  have v := v h.1
  have h := h.2
  refine jcJx4a65c_size_8abf5 ?_ _ _ h v
  intro r5 σ4 h v
  refine ⟨?_, ?_⟩
  · have h := h.1
    have v := v.1
    intro e4
    have h := h e4
    have v := v e4
    refine ⟨h.1, ?_⟩
    have v := v h.1
    have h := h.2
    obtain ⟨a9, e6, h⟩ := h
    refine ⟨a9, e6, ?_⟩
    have v := v a9 e6
    refine ⟨h.1, ?_⟩
    have v := v h.1
    have h := h.2
    intro p12 e8 e9
    have h := h p12 e8 e9
    have v := v p12 e8 e9
    intro σ15 e10
    have h := h σ15 e10
    have v := v σ15 e10
    refine ⟨h.1, ?_⟩
    have v := v h.1
    have h := h.2
    refine jcX2_init ?_ _ _ _ _ h v
    intro σ18 h v
    refine ⟨h.1, ?_⟩
    have v := v h.1
    have h := h.2
    refine jcJx4a65c_add_9ea2d ?_ _ _ _ h v
    intro r20 σ19 h v
    refine ⟨h.1, ?_⟩
    have v := v h.1
    have h := h.2
    obtain ⟨a23, e14, h⟩ := h
    refine ⟨a23, e14, ?_⟩
    have v := v a23 e14
    refine ⟨h.1, ?_⟩
    have v := v h.1
    have h := h.2
    refine jcJx4a65c_size_8abf5 ?_ _ _ h v
    intro r26 σ25 h v
    exact hQ _ _ h v
  · have h := h.2
    have v := v.2
    intro e16
    have h := h e16
    have v := v e16
    exact hQ _ _ h v
set_option maxRecDepth 100000 in
set_option maxHeartbeats 4000000 in
theorem jaX11_newCrew {Q Q' : Int32 → kx_S → Prop} (hQ : ∀ y0 y1, Q y0 y1 → Q' y0 y1) : ∀ (l0 : Nat) (l1 : Nat) (σ : kx_S), wX11_newCrew l0 l1 σ Q → vX11_newCrew l0 l1 σ Q' := by
  intro l0 l1 σ h
  unfold wX11_newCrew at h
  unfold vX11_newCrew
  intro e1
  have h := h.2
  obtain ⟨a2', e2, h⟩ := h
  intro a2 e3
  have x9 : a2' = a2 := Option.some.inj (e2.symm.trans e3)
  rw [x9] at h
  intro e4
  have h := h.2
  refine jaJx4a65c_size_8abf5 ?_ _ _ h
  intro r5 σ4 h
  refine ⟨?_, ?_⟩
  · have h := h.1
    intro e5
    have h := h e5
    intro e6
    have h := h.2
    obtain ⟨a9', e7, h⟩ := h
    intro a9 e8
    have x9 : a9' = a9 := Option.some.inj (e7.symm.trans e8)
    rw [x9] at h
    intro e9
    have h := h.2
    intro p12 e10 e11
    have h := h p12 e10 e11
    intro σ15 e12
    have h := h σ15 e12
    intro e13
    have h := h.2
    refine jaX2_init ?_ _ _ _ _ h
    intro σ18 h
    intro e14
    have h := h.2
    refine jaJx4a65c_add_9ea2d ?_ _ _ _ h
    intro r20 σ19 h
    intro e15
    have h := h.2
    obtain ⟨a23', e16, h⟩ := h
    intro a23 e17
    have x9 : a23' = a23 := Option.some.inj (e16.symm.trans e17)
    rw [x9] at h
    intro e18
    have h := h.2
    refine jaJx4a65c_size_8abf5 ?_ _ _ h
    intro r26 σ25 h
    exact hQ _ _ h
  · have h := h.2
    intro e19
    have h := h e19
    exact hQ _ _ h
set_option maxRecDepth 100000 in
set_option maxHeartbeats 4000000 in
theorem jfX11_newCrew {I : kx_S → Prop} (W : fw_ I [16, 17, 18, 64, 65, 1003, 1104, 1222]) {Q : Int32 → kx_S → Prop} (hQ : ∀ y0 y1, I y1 → Q y0 y1) : ∀ (l0 : Nat) (l1 : Nat) (σ : kx_S), I σ → vX11_newCrew l0 l1 σ Q := by
  intro l0 l1 σ i
  unfold vX11_newCrew
  intro e1
  intro a2 e2
  intro e3
  refine jfJx4a65c_size_8abf5 (I := I) (fw_sub W (by decide)) ?_ _ _ i
  intro r5 σ4 iσ4
  refine ⟨?_, ?_⟩
  · intro e4
    intro e5
    intro a9 e6
    intro e7
    intro p12 e8 e9
    intro σ15 e10
    have iσ15 : I σ15 := by rw [e10]; exact (W _ iσ4).2.2.2.2.2.2.1 4 (by decide) _ e8
    intro e11
    refine jfX2_init (I := I) (fw_sub W (by decide)) ?_ _ _ _ _ iσ15
    intro σ18 iσ18
    intro e12
    refine jfJx4a65c_add_9ea2d (I := I) (fw_sub W (by decide)) ?_ _ _ _ iσ18
    intro r20 σ19 iσ19
    intro e13
    intro a23 e14
    intro e15
    refine jfJx4a65c_size_8abf5 (I := I) (fw_sub W (by decide)) ?_ _ _ iσ19
    intro r26 σ25 iσ25
    exact hQ _ _ iσ25
  · intro e16
    exact hQ _ _ iσ4
def vX11_crew (l0 : Nat) (l1 : Int32) (l2 : Int32) (σ : kx_S) (Q : Int32 → kx_S → Prop) (QX : String → kx_S → Prop) : Prop := xt σ l0 = 13 → vX11_reachAt l0 l2 σ (fun b2 σ1 => ((¬ l1 = (-1) → xt σ1 l0 = 13 → ∀ a6, xr σ1 211 l0 = some a6 → xt σ1 a6 = 1 → vJx4a65c_size_8abf5 a6 σ1 (fun r9 σ8 => vX11_isWithin l1 0 (r9 - 1) σ8 (fun r12 σ11 => ((¬ r12 = 0 → xt σ11 l0 = 13 → ∀ a15, xr σ11 211 l0 = some a15 → xt σ11 a15 = 1 → vJx4a65c_get_915e3 a15 l1 σ11 (fun q18 σ17 => ∀ a20, q18 = some a20 → xt σ17 a20 = 4 → ∀ a23, xr σ17 64 a20 = some a23 → xt σ17 a23 = 10 → (((xi σ17 160 a23) = l2 → Q l1 σ17) ∧ (¬ ((xi σ17 160 a23) = l2) → xt σ17 l0 = 13 → vX2_come a20 b2 (xi σ17 217 l0) σ17 (fun σ28 => Q l1 σ28))))) ∧ (r12 = 0 → Q (-1) σ11))))) ∧ (l1 = (-1) → xt σ1 l0 = 13 → vX11_newCrew l0 b2 σ1 (fun r30 σ29 => Q r30 σ29)))) QX
set_option maxRecDepth 100000 in
set_option maxHeartbeats 4000000 in
theorem jcX11_crew {Q Q' Q'' : Int32 → kx_S → Prop} (hQ : ∀ y0 y1, Q y0 y1 → Q' y0 y1 → Q'' y0 y1) {QX QX' QX'' : String → kx_S → Prop} (hX : ∀ y0 y1, QX y0 y1 → QX' y0 y1 → QX'' y0 y1) : ∀ (l0 : Nat) (l1 : Int32) (l2 : Int32) (σ : kx_S), wX11_crew l0 l1 l2 σ Q QX → vX11_crew l0 l1 l2 σ Q' QX' → wX11_crew l0 l1 l2 σ Q'' QX'' := by
  intro l0 l1 l2 σ h v
  unfold wX11_crew at h
  unfold vX11_crew at v
  unfold wX11_crew
  refine ⟨h.1, ?_⟩
  have v := v h.1
  have h := h.2
  refine jcX11_reachAt ?_ hX _ _ _ h v
  intro b2 σ1 h v
  refine ⟨?_, ?_⟩
  · have h := h.1
    have v := v.1
    intro e2
    have h := h e2
    have v := v e2
    refine ⟨h.1, ?_⟩
    have v := v h.1
    have h := h.2
    obtain ⟨a6, e4, h⟩ := h
    refine ⟨a6, e4, ?_⟩
    have v := v a6 e4
    refine ⟨h.1, ?_⟩
    have v := v h.1
    have h := h.2
    refine jcJx4a65c_size_8abf5 ?_ _ _ h v
    intro r9 σ8 h v
    refine jcX11_isWithin ?_ _ _ _ _ h v
    intro r12 σ11 h v
    refine ⟨?_, ?_⟩
    · have h := h.1
      have v := v.1
      intro e6
      have h := h e6
      have v := v e6
      refine ⟨h.1, ?_⟩
      have v := v h.1
      have h := h.2
      obtain ⟨a15, e8, h⟩ := h
      refine ⟨a15, e8, ?_⟩
      have v := v a15 e8
      refine ⟨h.1, ?_⟩
      have v := v h.1
      have h := h.2
      refine jcJx4a65c_get_915e3 ?_ _ _ _ h v
      intro q18 σ17 h v
      obtain ⟨a20, e10, h⟩ := h
      refine ⟨a20, e10, ?_⟩
      have v := v a20 e10
      refine ⟨h.1, ?_⟩
      have v := v h.1
      have h := h.2
      obtain ⟨a23, e12, h⟩ := h
      refine ⟨a23, e12, ?_⟩
      have v := v a23 e12
      refine ⟨h.1, ?_⟩
      have v := v h.1
      have h := h.2
      refine ⟨?_, ?_⟩
      · have h := h.1
        have v := v.1
        intro e14
        have h := h e14
        have v := v e14
        exact hQ _ _ h v
      · have h := h.2
        have v := v.2
        intro e15
        have h := h e15
        have v := v e15
        refine ⟨h.1, ?_⟩
        have v := v h.1
        have h := h.2
        refine jcX2_come ?_ _ _ _ _ h v
        intro σ28 h v
        exact hQ _ _ h v
    · have h := h.2
      have v := v.2
      intro e17
      have h := h e17
      have v := v e17
      exact hQ _ _ h v
  · have h := h.2
    have v := v.2
    intro e18
    have h := h e18
    have v := v e18
    refine ⟨h.1, ?_⟩
    have v := v h.1
    have h := h.2
    refine jcX11_newCrew ?_ _ _ _ h v
    intro r30 σ29 h v
    exact hQ _ _ h v
set_option maxRecDepth 100000 in
set_option maxHeartbeats 4000000 in
theorem jaX11_crew {Q Q' : Int32 → kx_S → Prop} (hQ : ∀ y0 y1, Q y0 y1 → Q' y0 y1) {QX QX' : String → kx_S → Prop} (hX : ∀ y0 y1, QX y0 y1 → QX' y0 y1) : ∀ (l0 : Nat) (l1 : Int32) (l2 : Int32) (σ : kx_S), wX11_crew l0 l1 l2 σ Q QX → vX11_crew l0 l1 l2 σ Q' QX' := by
  intro l0 l1 l2 σ h
  unfold wX11_crew at h
  unfold vX11_crew
  intro e1
  have h := h.2
  refine jaX11_reachAt ?_ hX _ _ _ h
  intro b2 σ1 h
  refine ⟨?_, ?_⟩
  · have h := h.1
    intro e2
    have h := h e2
    intro e3
    have h := h.2
    obtain ⟨a6', e4, h⟩ := h
    intro a6 e5
    have x9 : a6' = a6 := Option.some.inj (e4.symm.trans e5)
    rw [x9] at h
    intro e6
    have h := h.2
    refine jaJx4a65c_size_8abf5 ?_ _ _ h
    intro r9 σ8 h
    refine jaX11_isWithin ?_ _ _ _ _ h
    intro r12 σ11 h
    refine ⟨?_, ?_⟩
    · have h := h.1
      intro e7
      have h := h e7
      intro e8
      have h := h.2
      obtain ⟨a15', e9, h⟩ := h
      intro a15 e10
      have x9 : a15' = a15 := Option.some.inj (e9.symm.trans e10)
      rw [x9] at h
      intro e11
      have h := h.2
      refine jaJx4a65c_get_915e3 ?_ _ _ _ h
      intro q18 σ17 h
      obtain ⟨a20', e12, h⟩ := h
      intro a20 e13
      have x9 : a20' = a20 := Option.some.inj (e12.symm.trans e13)
      rw [x9] at h
      intro e14
      have h := h.2
      obtain ⟨a23', e15, h⟩ := h
      intro a23 e16
      have x9 : a23' = a23 := Option.some.inj (e15.symm.trans e16)
      rw [x9] at h
      intro e17
      have h := h.2
      refine ⟨?_, ?_⟩
      · have h := h.1
        intro e18
        have h := h e18
        exact hQ _ _ h
      · have h := h.2
        intro e19
        have h := h e19
        intro e20
        have h := h.2
        refine jaX2_come ?_ _ _ _ _ h
        intro σ28 h
        exact hQ _ _ h
    · have h := h.2
      intro e21
      have h := h e21
      exact hQ _ _ h
  · have h := h.2
    intro e22
    have h := h e22
    intro e23
    have h := h.2
    refine jaX11_newCrew ?_ _ _ _ h
    intro r30 σ29 h
    exact hQ _ _ h
set_option maxRecDepth 100000 in
set_option maxHeartbeats 4000000 in
theorem jfX11_crew {I : kx_S → Prop} (W : fw_ I [16, 17, 18, 64, 65, 1003, 1005, 1104, 1222]) {Q : Int32 → kx_S → Prop} (hQ : ∀ y0 y1, I y1 → Q y0 y1) {QX : String → kx_S → Prop} (hX : ∀ y0 y1, I y1 → QX y0 y1) : ∀ (l0 : Nat) (l1 : Int32) (l2 : Int32) (σ : kx_S), I σ → vX11_crew l0 l1 l2 σ Q QX := by
  intro l0 l1 l2 σ i
  unfold vX11_crew
  intro e1
  refine jfX11_reachAt (I := I) (fw_sub W (by decide)) ?_ hX _ _ _ i
  intro b2 σ1 iσ1
  refine ⟨?_, ?_⟩
  · intro e2
    intro e3
    intro a6 e4
    intro e5
    refine jfJx4a65c_size_8abf5 (I := I) (fw_sub W (by decide)) ?_ _ _ iσ1
    intro r9 σ8 iσ8
    refine jfX11_isWithin (I := I) (fw_sub W (by decide)) ?_ _ _ _ _ iσ8
    intro r12 σ11 iσ11
    refine ⟨?_, ?_⟩
    · intro e6
      intro e7
      intro a15 e8
      intro e9
      refine jfJx4a65c_get_915e3 (I := I) (fw_sub W (by decide)) ?_ _ _ _ iσ11
      intro q18 σ17 iσ17
      intro a20 e10
      intro e11
      intro a23 e12
      intro e13
      refine ⟨?_, ?_⟩
      · intro e14
        exact hQ _ _ iσ17
      · intro e15
        intro e16
        refine jfX2_come (I := I) (fw_sub W (by decide)) ?_ _ _ _ _ iσ17
        intro σ28 iσ28
        exact hQ _ _ iσ28
    · intro e17
      exact hQ _ _ iσ11
  · intro e18
    intro e19
    refine jfX11_newCrew (I := I) (fw_sub W (by decide)) ?_ _ _ _ iσ1
    intro r30 σ29 iσ29
    exact hQ _ _ iσ29
def vX11_feed (l0 : Nat) (l1 : Int32) (l2 : Int32) (l3 : Int32) (l4 : Int32) (l5 : Int32) (σ : kx_S) (Q : Int32 → kx_S → Prop) : Prop := xt σ l0 = 13 → ∀ a2, xr σ 213 l0 = some a2 → xt σ a2 = 11 → (((xi σ 177 a2) ≤ 480 → ∀ a6, xr σ 213 l0 = some a6 → xt σ a6 = 11 → vX9_append a6 l1 σ (fun σ8 => xt σ8 l0 = 13 → ∀ a11, xr σ8 213 l0 = some a11 → xt σ8 a11 = 11 → vX9_append a11 l2 σ8 (fun σ13 => xt σ13 l0 = 13 → ∀ a16, xr σ13 213 l0 = some a16 → xt σ13 a16 = 11 → vX9_append a16 l3 σ13 (fun σ18 => xt σ18 l0 = 13 → ∀ a21, xr σ18 213 l0 = some a21 → xt σ18 a21 = 11 → vX9_append a21 l4 σ18 (fun σ23 => xt σ23 l0 = 13 → ∀ a26, xr σ23 213 l0 = some a26 → xt σ23 a26 = 11 → vX9_append a26 l5 σ23 (fun σ28 => xt σ28 l0 = 13 → ∀ a31, xr σ28 213 l0 = some a31 → xt σ28 a31 = 11 → Q (xi σ28 177 a31) σ28)))))) ∧ (¬ ((xi σ 177 a2) ≤ 480) → Q (-1) σ))
set_option maxRecDepth 100000 in
set_option maxHeartbeats 4000000 in
theorem jcX11_feed {Q Q' Q'' : Int32 → kx_S → Prop} (hQ : ∀ y0 y1, Q y0 y1 → Q' y0 y1 → Q'' y0 y1) : ∀ (l0 : Nat) (l1 : Int32) (l2 : Int32) (l3 : Int32) (l4 : Int32) (l5 : Int32) (σ : kx_S), wX11_feed l0 l1 l2 l3 l4 l5 σ Q → vX11_feed l0 l1 l2 l3 l4 l5 σ Q' → wX11_feed l0 l1 l2 l3 l4 l5 σ Q'' := by
  intro l0 l1 l2 l3 l4 l5 σ h v
  unfold wX11_feed at h
  unfold vX11_feed at v
  unfold wX11_feed
  refine ⟨h.1, ?_⟩
  have v := v h.1
  have h := h.2
  obtain ⟨a2, e2, h⟩ := h
  refine ⟨a2, e2, ?_⟩
  have v := v a2 e2
  refine ⟨h.1, ?_⟩
  have v := v h.1
  have h := h.2
  refine ⟨?_, ?_⟩
  · have h := h.1
    have v := v.1
    intro e4
    have h := h e4
    have v := v e4
    obtain ⟨a6, e5, h⟩ := h
    refine ⟨a6, e5, ?_⟩
    have v := v a6 e5
    refine ⟨h.1, ?_⟩
    have v := v h.1
    have h := h.2
    refine jcX9_append ?_ _ _ _ h v
    intro σ8 h v
    refine ⟨h.1, ?_⟩
    have v := v h.1
    have h := h.2
    obtain ⟨a11, e8, h⟩ := h
    refine ⟨a11, e8, ?_⟩
    have v := v a11 e8
    refine ⟨h.1, ?_⟩
    have v := v h.1
    have h := h.2
    refine jcX9_append ?_ _ _ _ h v
    intro σ13 h v
    refine ⟨h.1, ?_⟩
    have v := v h.1
    have h := h.2
    obtain ⟨a16, e11, h⟩ := h
    refine ⟨a16, e11, ?_⟩
    have v := v a16 e11
    refine ⟨h.1, ?_⟩
    have v := v h.1
    have h := h.2
    refine jcX9_append ?_ _ _ _ h v
    intro σ18 h v
    refine ⟨h.1, ?_⟩
    have v := v h.1
    have h := h.2
    obtain ⟨a21, e14, h⟩ := h
    refine ⟨a21, e14, ?_⟩
    have v := v a21 e14
    refine ⟨h.1, ?_⟩
    have v := v h.1
    have h := h.2
    refine jcX9_append ?_ _ _ _ h v
    intro σ23 h v
    refine ⟨h.1, ?_⟩
    have v := v h.1
    have h := h.2
    obtain ⟨a26, e17, h⟩ := h
    refine ⟨a26, e17, ?_⟩
    have v := v a26 e17
    refine ⟨h.1, ?_⟩
    have v := v h.1
    have h := h.2
    refine jcX9_append ?_ _ _ _ h v
    intro σ28 h v
    refine ⟨h.1, ?_⟩
    have v := v h.1
    have h := h.2
    obtain ⟨a31, e20, h⟩ := h
    refine ⟨a31, e20, ?_⟩
    have v := v a31 e20
    refine ⟨h.1, ?_⟩
    have v := v h.1
    have h := h.2
    exact hQ _ _ h v
  · have h := h.2
    have v := v.2
    intro e22
    have h := h e22
    have v := v e22
    exact hQ _ _ h v
set_option maxRecDepth 100000 in
set_option maxHeartbeats 4000000 in
theorem jaX11_feed {Q Q' : Int32 → kx_S → Prop} (hQ : ∀ y0 y1, Q y0 y1 → Q' y0 y1) : ∀ (l0 : Nat) (l1 : Int32) (l2 : Int32) (l3 : Int32) (l4 : Int32) (l5 : Int32) (σ : kx_S), wX11_feed l0 l1 l2 l3 l4 l5 σ Q → vX11_feed l0 l1 l2 l3 l4 l5 σ Q' := by
  intro l0 l1 l2 l3 l4 l5 σ h
  unfold wX11_feed at h
  unfold vX11_feed
  intro e1
  have h := h.2
  obtain ⟨a2', e2, h⟩ := h
  intro a2 e3
  have x9 : a2' = a2 := Option.some.inj (e2.symm.trans e3)
  rw [x9] at h
  intro e4
  have h := h.2
  refine ⟨?_, ?_⟩
  · have h := h.1
    intro e5
    have h := h e5
    obtain ⟨a6', e6, h⟩ := h
    intro a6 e7
    have x9 : a6' = a6 := Option.some.inj (e6.symm.trans e7)
    rw [x9] at h
    intro e8
    have h := h.2
    refine jaX9_append ?_ _ _ _ h
    intro σ8 h
    intro e9
    have h := h.2
    obtain ⟨a11', e10, h⟩ := h
    intro a11 e11
    have x9 : a11' = a11 := Option.some.inj (e10.symm.trans e11)
    rw [x9] at h
    intro e12
    have h := h.2
    refine jaX9_append ?_ _ _ _ h
    intro σ13 h
    intro e13
    have h := h.2
    obtain ⟨a16', e14, h⟩ := h
    intro a16 e15
    have x9 : a16' = a16 := Option.some.inj (e14.symm.trans e15)
    rw [x9] at h
    intro e16
    have h := h.2
    refine jaX9_append ?_ _ _ _ h
    intro σ18 h
    intro e17
    have h := h.2
    obtain ⟨a21', e18, h⟩ := h
    intro a21 e19
    have x9 : a21' = a21 := Option.some.inj (e18.symm.trans e19)
    rw [x9] at h
    intro e20
    have h := h.2
    refine jaX9_append ?_ _ _ _ h
    intro σ23 h
    intro e21
    have h := h.2
    obtain ⟨a26', e22, h⟩ := h
    intro a26 e23
    have x9 : a26' = a26 := Option.some.inj (e22.symm.trans e23)
    rw [x9] at h
    intro e24
    have h := h.2
    refine jaX9_append ?_ _ _ _ h
    intro σ28 h
    intro e25
    have h := h.2
    obtain ⟨a31', e26, h⟩ := h
    intro a31 e27
    have x9 : a31' = a31 := Option.some.inj (e26.symm.trans e27)
    rw [x9] at h
    intro e28
    have h := h.2
    exact hQ _ _ h
  · have h := h.2
    intro e29
    have h := h e29
    exact hQ _ _ h
set_option maxRecDepth 100000 in
set_option maxHeartbeats 4000000 in
theorem jfX11_feed {I : kx_S → Prop} (W : fw_ I [177, 1001]) {Q : Int32 → kx_S → Prop} (hQ : ∀ y0 y1, I y1 → Q y0 y1) : ∀ (l0 : Nat) (l1 : Int32) (l2 : Int32) (l3 : Int32) (l4 : Int32) (l5 : Int32) (σ : kx_S), I σ → vX11_feed l0 l1 l2 l3 l4 l5 σ Q := by
  intro l0 l1 l2 l3 l4 l5 σ i
  unfold vX11_feed
  intro e1
  intro a2 e2
  intro e3
  refine ⟨?_, ?_⟩
  · intro e4
    intro a6 e5
    intro e6
    refine jfX9_append (I := I) (fw_sub W (by decide)) ?_ _ _ _ i
    intro σ8 iσ8
    intro e7
    intro a11 e8
    intro e9
    refine jfX9_append (I := I) (fw_sub W (by decide)) ?_ _ _ _ iσ8
    intro σ13 iσ13
    intro e10
    intro a16 e11
    intro e12
    refine jfX9_append (I := I) (fw_sub W (by decide)) ?_ _ _ _ iσ13
    intro σ18 iσ18
    intro e13
    intro a21 e14
    intro e15
    refine jfX9_append (I := I) (fw_sub W (by decide)) ?_ _ _ _ iσ18
    intro σ23 iσ23
    intro e16
    intro a26 e17
    intro e18
    refine jfX9_append (I := I) (fw_sub W (by decide)) ?_ _ _ _ iσ23
    intro σ28 iσ28
    intro e19
    intro a31 e20
    intro e21
    exact hQ _ _ iσ28
  · intro e22
    exact hQ _ _ i
def vX11_law_26 (Q : Int32 → kx_S → Prop) (QX : String → kx_S → Prop) (σ : kx_S) : Prop := xc σ < kx_N → QX pz_I (xbump σ)
set_option maxRecDepth 100000 in
set_option maxHeartbeats 4000000 in
theorem jcX11_law_26 {Q Q' Q'' : Int32 → kx_S → Prop} (hQ : ∀ y0 y1, Q y0 y1 → Q' y0 y1 → Q'' y0 y1) {QX QX' QX'' : String → kx_S → Prop} (hX : ∀ y0 y1, QX y0 y1 → QX' y0 y1 → QX'' y0 y1) : ∀ (σ : kx_S), wX11_law_26 Q QX σ → vX11_law_26 Q' QX' σ → wX11_law_26 Q'' QX'' σ := by
  intro σ h v
  unfold wX11_law_26 at h
  unfold vX11_law_26 at v
  unfold wX11_law_26
  refine ⟨h.1, ?_⟩
  have v := v h.1
  have h := h.2
  exact hX _ _ h v
set_option maxRecDepth 100000 in
set_option maxHeartbeats 4000000 in
theorem jaX11_law_26 {Q Q' : Int32 → kx_S → Prop} (hQ : ∀ y0 y1, Q y0 y1 → Q' y0 y1) {QX QX' : String → kx_S → Prop} (hX : ∀ y0 y1, QX y0 y1 → QX' y0 y1) : ∀ (σ : kx_S), wX11_law_26 Q QX σ → vX11_law_26 Q' QX' σ := by
  intro σ h
  unfold wX11_law_26 at h
  unfold vX11_law_26
  intro e1
  have h := h.2
  exact hX _ _ h
set_option maxRecDepth 100000 in
set_option maxHeartbeats 4000000 in
theorem jfX11_law_26 {I : kx_S → Prop} (W : fw_ I [1005]) {Q : Int32 → kx_S → Prop} (hQ : ∀ y0 y1, I y1 → Q y0 y1) {QX : String → kx_S → Prop} (hX : ∀ y0 y1, I y1 → QX y0 y1) : ∀ (σ : kx_S), I σ → vX11_law_26 Q QX σ := by
  intro σ i
  unfold vX11_law_26
  intro e1
  exact hX _ _ ((W _ i).2.2.2.2.2.1 (by decide))
def vX11_law (l0 : Nat) (l1 : Int32) (l2 : Int32) (σ : kx_S) (Q : Int32 → kx_S → Prop) (QX : String → kx_S → Prop) : Prop := xt σ l0 = 13 → ∀ a3, xr σ 213 l0 = some a3 → xt σ a3 = 11 → vX11_isWithin l1 0 (xi σ 177 a3) σ (fun r7 σ6 => ((r7 = 0 → vX11_law_26 Q QX σ6) ∧ (¬ (r7 = 0) → vX11_isWithin l2 0 1000 σ6 (fun r10 σ9 => ((¬ r10 = 0 → xt σ9 l0 = 13 → ∀ a13, xr σ9 213 l0 = some a13 → xt σ9 a13 = 11 → ∀ σ16, σ16 = xsi σ9 177 a13 0 → ∀ σ19, σ19 = xsi σ16 219 l0 (-1) → ∀ a22, xr σ19 210 l0 = some a22 → xt σ19 a22 = 1 → vJx4a65c_size_8abf5 a22 σ19 (fun r25 σ24 => ((r25 < 6 → xt σ24 l0 = 13 → ∀ a29, xr σ24 214 l0 = some a29 → xt σ24 a29 = 7 → vX5_readText a29 l1 σ24 (fun σ31 => xt σ31 l0 = 13 → ∀ a34, xr σ31 214 l0 = some a34 → xt σ31 a34 = 7 → (((xi σ31 115 a34) = 0 → ∀ a38, xr σ31 210 l0 = some a38 → xc σ31 < kx_N → ∀ p41, xt σ31 p41 = 0 → p41 ≠ xz σ31 → ∀ σ44, σ44 = xnew σ31 p41 6 → xt σ44 l0 = 13 → ∀ a47, xr σ44 214 l0 = some a47 → xt σ44 a47 = 7 → ∀ a50, xr σ44 113 a47 = some a50 → ∀ a52, xr σ44 214 l0 = some a52 → xt σ44 a52 = 7 → vJ7_copyOf_59c91 a50 (xi σ44 114 a52) σ44 (fun b56 σ55 => vX4_init p41 l2 b56 σ55 (fun σ57 => xt σ57 a38 = 1 → vJx4a65c_add_9ea2d a38 p41 σ57 (fun r59 σ58 => xt σ58 l0 = 13 → ∀ a62, xr σ58 210 l0 = some a62 → xt σ58 a62 = 1 → vJx4a65c_size_8abf5 a62 σ58 (fun r65 σ64 => Q (r65 - 1) σ64))))) ∧ (¬ ((xi σ31 115 a34) = 0) → ∀ a67, xr σ31 214 l0 = some a67 → xt σ31 a67 = 7 → ∀ σ70, σ70 = xsi σ31 219 l0 (xi σ31 116 a67) → ∀ a74, xr σ70 214 l0 = some a74 → xt σ70 a74 = 7 → Q ((-1) - (xi σ70 115 a74)) σ70)))) ∧ (¬ (r25 < 6) → Q (-9) σ24)))) ∧ (r10 = 0 → vX11_law_26 Q QX σ9))))))
set_option maxRecDepth 100000 in
set_option maxHeartbeats 4000000 in
theorem jcX11_law {Q Q' Q'' : Int32 → kx_S → Prop} (hQ : ∀ y0 y1, Q y0 y1 → Q' y0 y1 → Q'' y0 y1) {QX QX' QX'' : String → kx_S → Prop} (hX : ∀ y0 y1, QX y0 y1 → QX' y0 y1 → QX'' y0 y1) : ∀ (l0 : Nat) (l1 : Int32) (l2 : Int32) (σ : kx_S), wX11_law l0 l1 l2 σ Q QX → vX11_law l0 l1 l2 σ Q' QX' → wX11_law l0 l1 l2 σ Q'' QX'' := by
  intro l0 l1 l2 σ h v
  unfold wX11_law at h
  unfold vX11_law at v
  unfold wX11_law
  refine ⟨h.1, ?_⟩
  have v := v h.1
  have h := h.2
  obtain ⟨a3, e2, h⟩ := h
  refine ⟨a3, e2, ?_⟩
  have v := v a3 e2
  refine ⟨h.1, ?_⟩
  have v := v h.1
  have h := h.2
  refine jcX11_isWithin ?_ _ _ _ _ h v
  intro r7 σ6 h v
  refine ⟨?_, ?_⟩
  · have h := h.1
    have v := v.1
    intro e4
    have h := h e4
    have v := v e4
    exact jcX11_law_26 hQ hX _ h v
  · have h := h.2
    have v := v.2
    intro e5
    have h := h e5
    have v := v e5
    refine jcX11_isWithin ?_ _ _ _ _ h v
    intro r10 σ9 h v
    refine ⟨?_, ?_⟩
    · have h := h.1
      have v := v.1
      intro e6
      have h := h e6
      have v := v e6
      refine ⟨h.1, ?_⟩
      have v := v h.1
      have h := h.2
      obtain ⟨a13, e8, h⟩ := h
      refine ⟨a13, e8, ?_⟩
      have v := v a13 e8
      refine ⟨h.1, ?_⟩
      have v := v h.1
      have h := h.2
      intro σ16 e10
      have h := h σ16 e10
      have v := v σ16 e10
      intro σ19 e11
      have h := h σ19 e11
      have v := v σ19 e11
      obtain ⟨a22, e12, h⟩ := h
      refine ⟨a22, e12, ?_⟩
      have v := v a22 e12
      refine ⟨h.1, ?_⟩
      have v := v h.1
      have h := h.2
      refine jcJx4a65c_size_8abf5 ?_ _ _ h v
      intro r25 σ24 h v
      refine ⟨?_, ?_⟩
      · have h := h.1
        have v := v.1
        intro e14
        have h := h e14
        have v := v e14
        refine ⟨h.1, ?_⟩
        have v := v h.1
        have h := h.2
        obtain ⟨a29, e16, h⟩ := h
        refine ⟨a29, e16, ?_⟩
        have v := v a29 e16
        refine ⟨h.1, ?_⟩
        have v := v h.1
        have h := h.2
        refine jcX5_readText ?_ _ _ _ h v
        intro σ31 h v
        refine ⟨h.1, ?_⟩
        have v := v h.1
        have h := h.2
        obtain ⟨a34, e19, h⟩ := h
        refine ⟨a34, e19, ?_⟩
        have v := v a34 e19
        refine ⟨h.1, ?_⟩
        have v := v h.1
        have h := h.2
        refine ⟨?_, ?_⟩
        · have h := h.1
          have v := v.1
          intro e21
          have h := h e21
          have v := v e21
          obtain ⟨a38, e22, h⟩ := h
          refine ⟨a38, e22, ?_⟩
          have v := v a38 e22
          refine ⟨h.1, ?_⟩
          have v := v h.1
          have h := h.2
          intro p41 e24 e25
          have h := h p41 e24 e25
          have v := v p41 e24 e25
          intro σ44 e26
          have h := h σ44 e26
          have v := v σ44 e26
          refine ⟨h.1, ?_⟩
          have v := v h.1
          have h := h.2
          obtain ⟨a47, e28, h⟩ := h
          refine ⟨a47, e28, ?_⟩
          have v := v a47 e28
          refine ⟨h.1, ?_⟩
          have v := v h.1
          have h := h.2
          obtain ⟨a50, e30, h⟩ := h
          refine ⟨a50, e30, ?_⟩
          have v := v a50 e30
          obtain ⟨a52, e31, h⟩ := h
          refine ⟨a52, e31, ?_⟩
          have v := v a52 e31
          refine ⟨h.1, ?_⟩
          have v := v h.1
          have h := h.2
          refine jcJ7_copyOf_59c91 ?_ _ _ _ h v
          intro b56 σ55 h v
          refine jcX4_init ?_ _ _ _ _ h v
          intro σ57 h v
          refine ⟨h.1, ?_⟩
          have v := v h.1
          have h := h.2
          refine jcJx4a65c_add_9ea2d ?_ _ _ _ h v
          intro r59 σ58 h v
          refine ⟨h.1, ?_⟩
          have v := v h.1
          have h := h.2
          obtain ⟨a62, e35, h⟩ := h
          refine ⟨a62, e35, ?_⟩
          have v := v a62 e35
          refine ⟨h.1, ?_⟩
          have v := v h.1
          have h := h.2
          refine jcJx4a65c_size_8abf5 ?_ _ _ h v
          intro r65 σ64 h v
          exact hQ _ _ h v
        · have h := h.2
          have v := v.2
          intro e37
          have h := h e37
          have v := v e37
          obtain ⟨a67, e38, h⟩ := h
          refine ⟨a67, e38, ?_⟩
          have v := v a67 e38
          refine ⟨h.1, ?_⟩
          have v := v h.1
          have h := h.2
          intro σ70 e40
          have h := h σ70 e40
          have v := v σ70 e40
          obtain ⟨a74, e41, h⟩ := h
          refine ⟨a74, e41, ?_⟩
          have v := v a74 e41
          refine ⟨h.1, ?_⟩
          have v := v h.1
          have h := h.2
          exact hQ _ _ h v
      · have h := h.2
        have v := v.2
        intro e43
        have h := h e43
        have v := v e43
        exact hQ _ _ h v
    · have h := h.2
      have v := v.2
      intro e44
      have h := h e44
      have v := v e44
      exact jcX11_law_26 hQ hX _ h v
set_option maxRecDepth 100000 in
set_option maxHeartbeats 4000000 in
theorem jaX11_law {Q Q' : Int32 → kx_S → Prop} (hQ : ∀ y0 y1, Q y0 y1 → Q' y0 y1) {QX QX' : String → kx_S → Prop} (hX : ∀ y0 y1, QX y0 y1 → QX' y0 y1) : ∀ (l0 : Nat) (l1 : Int32) (l2 : Int32) (σ : kx_S), wX11_law l0 l1 l2 σ Q QX → vX11_law l0 l1 l2 σ Q' QX' := by
  intro l0 l1 l2 σ h
  unfold wX11_law at h
  unfold vX11_law
  intro e1
  have h := h.2
  obtain ⟨a3', e2, h⟩ := h
  intro a3 e3
  have x9 : a3' = a3 := Option.some.inj (e2.symm.trans e3)
  rw [x9] at h
  intro e4
  have h := h.2
  refine jaX11_isWithin ?_ _ _ _ _ h
  intro r7 σ6 h
  refine ⟨?_, ?_⟩
  · have h := h.1
    intro e5
    have h := h e5
    exact jaX11_law_26 hQ hX _ h
  · have h := h.2
    intro e6
    have h := h e6
    refine jaX11_isWithin ?_ _ _ _ _ h
    intro r10 σ9 h
    refine ⟨?_, ?_⟩
    · have h := h.1
      intro e7
      have h := h e7
      intro e8
      have h := h.2
      obtain ⟨a13', e9, h⟩ := h
      intro a13 e10
      have x9 : a13' = a13 := Option.some.inj (e9.symm.trans e10)
      rw [x9] at h
      intro e11
      have h := h.2
      intro σ16 e12
      have h := h σ16 e12
      intro σ19 e13
      have h := h σ19 e13
      obtain ⟨a22', e14, h⟩ := h
      intro a22 e15
      have x9 : a22' = a22 := Option.some.inj (e14.symm.trans e15)
      rw [x9] at h
      intro e16
      have h := h.2
      refine jaJx4a65c_size_8abf5 ?_ _ _ h
      intro r25 σ24 h
      refine ⟨?_, ?_⟩
      · have h := h.1
        intro e17
        have h := h e17
        intro e18
        have h := h.2
        obtain ⟨a29', e19, h⟩ := h
        intro a29 e20
        have x9 : a29' = a29 := Option.some.inj (e19.symm.trans e20)
        rw [x9] at h
        intro e21
        have h := h.2
        refine jaX5_readText ?_ _ _ _ h
        intro σ31 h
        intro e22
        have h := h.2
        obtain ⟨a34', e23, h⟩ := h
        intro a34 e24
        have x9 : a34' = a34 := Option.some.inj (e23.symm.trans e24)
        rw [x9] at h
        intro e25
        have h := h.2
        refine ⟨?_, ?_⟩
        · have h := h.1
          intro e26
          have h := h e26
          obtain ⟨a38', e27, h⟩ := h
          intro a38 e28
          have x9 : a38' = a38 := Option.some.inj (e27.symm.trans e28)
          rw [x9] at h
          intro e29
          have h := h.2
          intro p41 e30 e31
          have h := h p41 e30 e31
          intro σ44 e32
          have h := h σ44 e32
          intro e33
          have h := h.2
          obtain ⟨a47', e34, h⟩ := h
          intro a47 e35
          have x9 : a47' = a47 := Option.some.inj (e34.symm.trans e35)
          rw [x9] at h
          intro e36
          have h := h.2
          obtain ⟨a50', e37, h⟩ := h
          intro a50 e38
          have x9 : a50' = a50 := Option.some.inj (e37.symm.trans e38)
          rw [x9] at h
          obtain ⟨a52', e39, h⟩ := h
          intro a52 e40
          have x9 : a52' = a52 := Option.some.inj (e39.symm.trans e40)
          rw [x9] at h
          intro e41
          have h := h.2
          refine jaJ7_copyOf_59c91 ?_ _ _ _ h
          intro b56 σ55 h
          refine jaX4_init ?_ _ _ _ _ h
          intro σ57 h
          intro e42
          have h := h.2
          refine jaJx4a65c_add_9ea2d ?_ _ _ _ h
          intro r59 σ58 h
          intro e43
          have h := h.2
          obtain ⟨a62', e44, h⟩ := h
          intro a62 e45
          have x9 : a62' = a62 := Option.some.inj (e44.symm.trans e45)
          rw [x9] at h
          intro e46
          have h := h.2
          refine jaJx4a65c_size_8abf5 ?_ _ _ h
          intro r65 σ64 h
          exact hQ _ _ h
        · have h := h.2
          intro e47
          have h := h e47
          obtain ⟨a67', e48, h⟩ := h
          intro a67 e49
          have x9 : a67' = a67 := Option.some.inj (e48.symm.trans e49)
          rw [x9] at h
          intro e50
          have h := h.2
          intro σ70 e51
          have h := h σ70 e51
          obtain ⟨a74', e52, h⟩ := h
          intro a74 e53
          have x9 : a74' = a74 := Option.some.inj (e52.symm.trans e53)
          rw [x9] at h
          intro e54
          have h := h.2
          exact hQ _ _ h
      · have h := h.2
        intro e55
        have h := h e55
        exact hQ _ _ h
    · have h := h.2
      intro e56
      have h := h e56
      exact jaX11_law_26 hQ hX _ h
set_option maxRecDepth 100000 in
set_option maxHeartbeats 4000000 in
theorem jfX11_law {I : kx_S → Prop} (W : fw_ I [16, 17, 18, 96, 97, 114, 115, 116, 177, 193, 194, 195, 196, 219, 1001, 1003, 1004, 1005, 1106, 1220, 1222]) {Q : Int32 → kx_S → Prop} (hQ : ∀ y0 y1, I y1 → Q y0 y1) {QX : String → kx_S → Prop} (hX : ∀ y0 y1, I y1 → QX y0 y1) : ∀ (l0 : Nat) (l1 : Int32) (l2 : Int32) (σ : kx_S), I σ → vX11_law l0 l1 l2 σ Q QX := by
  intro l0 l1 l2 σ i
  unfold vX11_law
  intro e1
  intro a3 e2
  intro e3
  refine jfX11_isWithin (I := I) (fw_sub W (by decide)) ?_ _ _ _ _ i
  intro r7 σ6 iσ6
  refine ⟨?_, ?_⟩
  · intro e4
    exact jfX11_law_26 (I := I) (fw_sub W (by decide)) hQ hX _ iσ6
  · intro e5
    refine jfX11_isWithin (I := I) (fw_sub W (by decide)) ?_ _ _ _ _ iσ6
    intro r10 σ9 iσ9
    refine ⟨?_, ?_⟩
    · intro e6
      intro e7
      intro a13 e8
      intro e9
      intro σ16 e10
      have iσ16 : I σ16 := by rw [e10]; exact ((W _ iσ9).1 177 (by decide)).1 _ _
      intro σ19 e11
      have iσ19 : I σ19 := by rw [e11]; exact ((W _ iσ16).1 219 (by decide)).1 _ _
      intro a22 e12
      intro e13
      refine jfJx4a65c_size_8abf5 (I := I) (fw_sub W (by decide)) ?_ _ _ iσ19
      intro r25 σ24 iσ24
      refine ⟨?_, ?_⟩
      · intro e14
        intro e15
        intro a29 e16
        intro e17
        refine jfX5_readText (I := I) (fw_sub W (by decide)) ?_ _ _ _ iσ24
        intro σ31 iσ31
        intro e18
        intro a34 e19
        intro e20
        refine ⟨?_, ?_⟩
        · intro e21
          intro a38 e22
          intro e23
          intro p41 e24 e25
          intro σ44 e26
          have iσ44 : I σ44 := by rw [e26]; exact (W _ iσ31).2.2.2.2.2.2.1 6 (by decide) _ e24
          intro e27
          intro a47 e28
          intro e29
          intro a50 e30
          intro a52 e31
          intro e32
          refine jfJ7_copyOf_59c91 (I := I) (fw_sub W (by decide)) ?_ _ _ _ iσ44
          intro b56 σ55 iσ55
          refine jfX4_init (I := I) (fw_sub W (by decide)) ?_ _ _ _ _ iσ55
          intro σ57 iσ57
          intro e33
          refine jfJx4a65c_add_9ea2d (I := I) (fw_sub W (by decide)) ?_ _ _ _ iσ57
          intro r59 σ58 iσ58
          intro e34
          intro a62 e35
          intro e36
          refine jfJx4a65c_size_8abf5 (I := I) (fw_sub W (by decide)) ?_ _ _ iσ58
          intro r65 σ64 iσ64
          exact hQ _ _ iσ64
        · intro e37
          intro a67 e38
          intro e39
          intro σ70 e40
          have iσ70 : I σ70 := by rw [e40]; exact ((W _ iσ31).1 219 (by decide)).1 _ _
          intro a74 e41
          intro e42
          exact hQ _ _ iσ70
      · intro e43
        exact hQ _ _ iσ24
    · intro e44
      exact jfX11_law_26 (I := I) (fw_sub W (by decide)) hQ hX _ iσ9
def vX11_fault (l0 : Nat) (σ : kx_S) (Q : Int32 → kx_S → Prop) : Prop := xt σ l0 = 13 → Q (xi σ 219 l0) σ
set_option maxRecDepth 100000 in
set_option maxHeartbeats 4000000 in
theorem jcX11_fault {Q Q' Q'' : Int32 → kx_S → Prop} (hQ : ∀ y0 y1, Q y0 y1 → Q' y0 y1 → Q'' y0 y1) : ∀ (l0 : Nat) (σ : kx_S), wX11_fault l0 σ Q → vX11_fault l0 σ Q' → wX11_fault l0 σ Q'' := by
  intro l0 σ h v
  unfold wX11_fault at h
  unfold vX11_fault at v
  unfold wX11_fault
  refine ⟨h.1, ?_⟩
  have v := v h.1
  have h := h.2
  exact hQ _ _ h v
set_option maxRecDepth 100000 in
set_option maxHeartbeats 4000000 in
theorem jaX11_fault {Q Q' : Int32 → kx_S → Prop} (hQ : ∀ y0 y1, Q y0 y1 → Q' y0 y1) : ∀ (l0 : Nat) (σ : kx_S), wX11_fault l0 σ Q → vX11_fault l0 σ Q' := by
  intro l0 σ h
  unfold wX11_fault at h
  unfold vX11_fault
  intro e1
  have h := h.2
  exact hQ _ _ h
set_option maxRecDepth 100000 in
set_option maxHeartbeats 4000000 in
theorem jfX11_fault {I : kx_S → Prop} (W : fw_ I []) {Q : Int32 → kx_S → Prop} (hQ : ∀ y0 y1, I y1 → Q y0 y1) : ∀ (l0 : Nat) (σ : kx_S), I σ → vX11_fault l0 σ Q := by
  intro l0 σ i
  unfold vX11_fault
  intro e1
  exact hQ _ _ i
def vX11_lawInForce_74 (k4 : Nat → (Option Nat) → Int32 → kx_S → Prop) (Q : Option Nat → kx_S → Prop) (l0 : Nat) (l1 : Option Nat) (l2 : Int32) (σ : kx_S) : Prop := ∀ v1 : Int32, v1 = l2 + 1 → k4 l0 l1 v1 σ
set_option maxRecDepth 100000 in
set_option maxHeartbeats 4000000 in
theorem jcX11_lawInForce_74 {k4 k4' k4'' : Nat → (Option Nat) → Int32 → kx_S → Prop} (hk4 : ∀ y0 y1 y2 y3, k4 y0 y1 y2 y3 → k4' y0 y1 y2 y3 → k4'' y0 y1 y2 y3) {Q Q' Q'' : Option Nat → kx_S → Prop} (hQ : ∀ y0 y1, Q y0 y1 → Q' y0 y1 → Q'' y0 y1) : ∀ (l0 : Nat) (l1 : Option Nat) (l2 : Int32) (σ : kx_S), wX11_lawInForce_74 k4 Q l0 l1 l2 σ → vX11_lawInForce_74 k4' Q' l0 l1 l2 σ → wX11_lawInForce_74 k4'' Q'' l0 l1 l2 σ := by
  intro l0 l1 l2 σ h v
  unfold wX11_lawInForce_74 at h
  unfold vX11_lawInForce_74 at v
  unfold wX11_lawInForce_74
  intro v1 e1
  have h := h v1 e1
  have v := v v1 e1
  exact hk4 _ _ _ _ h v
set_option maxRecDepth 100000 in
set_option maxHeartbeats 4000000 in
theorem jaX11_lawInForce_74 {k4 k4' : Nat → (Option Nat) → Int32 → kx_S → Prop} (hk4 : ∀ y0 y1 y2 y3, k4 y0 y1 y2 y3 → k4' y0 y1 y2 y3) {Q Q' : Option Nat → kx_S → Prop} (hQ : ∀ y0 y1, Q y0 y1 → Q' y0 y1) : ∀ (l0 : Nat) (l1 : Option Nat) (l2 : Int32) (σ : kx_S), wX11_lawInForce_74 k4 Q l0 l1 l2 σ → vX11_lawInForce_74 k4' Q' l0 l1 l2 σ := by
  intro l0 l1 l2 σ h
  unfold wX11_lawInForce_74 at h
  unfold vX11_lawInForce_74
  intro v1 e1
  have h := h v1 e1
  exact hk4 _ _ _ _ h
set_option maxRecDepth 100000 in
set_option maxHeartbeats 4000000 in
theorem jfX11_lawInForce_74 {I : kx_S → Prop} (W : fw_ I []) {k4 : Nat → (Option Nat) → Int32 → kx_S → Prop} (hk4 : ∀ y0 y1 y2 y3, I y3 → k4 y0 y1 y2 y3) {Q : Option Nat → kx_S → Prop} (hQ : ∀ y0 y1, I y1 → Q y0 y1) : ∀ (l0 : Nat) (l1 : Option Nat) (l2 : Int32) (σ : kx_S), I σ → vX11_lawInForce_74 k4 Q l0 l1 l2 σ := by
  intro l0 l1 l2 σ i
  unfold vX11_lawInForce_74
  intro v1 e1
  exact hk4 _ _ _ _ i
def vX11_lawInForce_72 (k74 : Nat → (Option Nat) → Int32 → kx_S → Prop) (Q : Option Nat → kx_S → Prop) (l0 : Nat) (l2 : Int32) (l3 : Nat) (σ : kx_S) : Prop := k74 l0 (some l3) l2 σ
set_option maxRecDepth 100000 in
set_option maxHeartbeats 4000000 in
theorem jcX11_lawInForce_72 {k74 k74' k74'' : Nat → (Option Nat) → Int32 → kx_S → Prop} (hk74 : ∀ y0 y1 y2 y3, k74 y0 y1 y2 y3 → k74' y0 y1 y2 y3 → k74'' y0 y1 y2 y3) {Q Q' Q'' : Option Nat → kx_S → Prop} (hQ : ∀ y0 y1, Q y0 y1 → Q' y0 y1 → Q'' y0 y1) : ∀ (l0 : Nat) (l2 : Int32) (l3 : Nat) (σ : kx_S), wX11_lawInForce_72 k74 Q l0 l2 l3 σ → vX11_lawInForce_72 k74' Q' l0 l2 l3 σ → wX11_lawInForce_72 k74'' Q'' l0 l2 l3 σ := by
  intro l0 l2 l3 σ h v
  unfold wX11_lawInForce_72 at h
  unfold vX11_lawInForce_72 at v
  unfold wX11_lawInForce_72
  exact hk74 _ _ _ _ h v
set_option maxRecDepth 100000 in
set_option maxHeartbeats 4000000 in
theorem jaX11_lawInForce_72 {k74 k74' : Nat → (Option Nat) → Int32 → kx_S → Prop} (hk74 : ∀ y0 y1 y2 y3, k74 y0 y1 y2 y3 → k74' y0 y1 y2 y3) {Q Q' : Option Nat → kx_S → Prop} (hQ : ∀ y0 y1, Q y0 y1 → Q' y0 y1) : ∀ (l0 : Nat) (l2 : Int32) (l3 : Nat) (σ : kx_S), wX11_lawInForce_72 k74 Q l0 l2 l3 σ → vX11_lawInForce_72 k74' Q' l0 l2 l3 σ := by
  intro l0 l2 l3 σ h
  unfold wX11_lawInForce_72 at h
  unfold vX11_lawInForce_72
  exact hk74 _ _ _ _ h
set_option maxRecDepth 100000 in
set_option maxHeartbeats 4000000 in
theorem jfX11_lawInForce_72 {I : kx_S → Prop} (W : fw_ I []) {k74 : Nat → (Option Nat) → Int32 → kx_S → Prop} (hk74 : ∀ y0 y1 y2 y3, I y3 → k74 y0 y1 y2 y3) {Q : Option Nat → kx_S → Prop} (hQ : ∀ y0 y1, I y1 → Q y0 y1) : ∀ (l0 : Nat) (l2 : Int32) (l3 : Nat) (σ : kx_S), I σ → vX11_lawInForce_72 k74 Q l0 l2 l3 σ := by
  intro l0 l2 l3 σ i
  unfold vX11_lawInForce_72
  exact hk74 _ _ _ _ i

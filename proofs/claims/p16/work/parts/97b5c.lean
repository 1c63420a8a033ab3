def vX11_freeJams (l0 : Nat) (σ : kx_S) (Q : kx_S → Prop) : Prop := ∀ j, vX11_freeJams_2 Q j l0 0 σ
set_option maxRecDepth 100000 in
set_option maxHeartbeats 4000000 in
theorem jcX11_freeJams {Q Q' Q'' : kx_S → Prop} (hQ : ∀ y0, Q y0 → Q' y0 → Q'' y0) : ∀ (l0 : Nat) (σ : kx_S), wX11_freeJams l0 σ Q → vX11_freeJams l0 σ Q' → wX11_freeJams l0 σ Q'' := by
  intro l0 σ h v
  unfold wX11_freeJams at h
  unfold vX11_freeJams at v
  unfold wX11_freeJams
  obtain ⟨j, h⟩ := h
  refine ⟨j, ?_⟩
  have v := v j
  exact jcX11_freeJams_2 hQ _ _ _ _ h v
set_option maxRecDepth 100000 in
set_option maxHeartbeats 4000000 in
theorem jaX11_freeJams {Q Q' : kx_S → Prop} (hQ : ∀ y0, Q y0 → Q' y0) : ∀ (l0 : Nat) (σ : kx_S), wX11_freeJams l0 σ Q → vX11_freeJams l0 σ Q' := by
  intro l0 σ h
  unfold wX11_freeJams at h
  unfold vX11_freeJams
  obtain ⟨j, h⟩ := h
  intro j9
  exact jaX11_freeJams_2 hQ _ j9 _ _ _ h
set_option maxRecDepth 100000 in
set_option maxHeartbeats 4000000 in
theorem jfX11_freeJams {I : kx_S → Prop} (W : fw_ I [50, 51, 65]) {Q : kx_S → Prop} (hQ : ∀ y0, I y0 → Q y0) : ∀ (l0 : Nat) (σ : kx_S), I σ → vX11_freeJams l0 σ Q := by
  intro l0 σ i
  unfold vX11_freeJams
  intro j
  exact jfX11_freeJams_2 (I := I) (fw_sub W (by decide)) hQ _ _ _ _ i
def vX11_makeJamsKnown_50 (k2 : Nat → Int32 → kx_S → Prop) (Q : kx_S → Prop) (l0 : Nat) (l1 : Int32) (σ : kx_S) : Prop := ∀ v1 : Int32, v1 = l1 + 1 → k2 l0 v1 σ
set_option maxRecDepth 100000 in
set_option maxHeartbeats 4000000 in
theorem jcX11_makeJamsKnown_50 {k2 k2' k2'' : Nat → Int32 → kx_S → Prop} (hk2 : ∀ y0 y1 y2, k2 y0 y1 y2 → k2' y0 y1 y2 → k2'' y0 y1 y2) {Q Q' Q'' : kx_S → Prop} (hQ : ∀ y0, Q y0 → Q' y0 → Q'' y0) : ∀ (l0 : Nat) (l1 : Int32) (σ : kx_S), wX11_makeJamsKnown_50 k2 Q l0 l1 σ → vX11_makeJamsKnown_50 k2' Q' l0 l1 σ → wX11_makeJamsKnown_50 k2'' Q'' l0 l1 σ := by
  intro l0 l1 σ h v
  unfold wX11_makeJamsKnown_50 at h
  unfold vX11_makeJamsKnown_50 at v
  unfold wX11_makeJamsKnown_50
  intro v1 e1
  have h := h v1 e1
  have v := v v1 e1
  exact hk2 _ _ _ h v
set_option maxRecDepth 100000 in
set_option maxHeartbeats 4000000 in
theorem jaX11_makeJamsKnown_50 {k2 k2' : Nat → Int32 → kx_S → Prop} (hk2 : ∀ y0 y1 y2, k2 y0 y1 y2 → k2' y0 y1 y2) {Q Q' : kx_S → Prop} (hQ : ∀ y0, Q y0 → Q' y0) : ∀ (l0 : Nat) (l1 : Int32) (σ : kx_S), wX11_makeJamsKnown_50 k2 Q l0 l1 σ → vX11_makeJamsKnown_50 k2' Q' l0 l1 σ := by
  intro l0 l1 σ h
  unfold wX11_makeJamsKnown_50 at h
  unfold vX11_makeJamsKnown_50
  intro v1 e1
  have h := h v1 e1
  exact hk2 _ _ _ h
set_option maxRecDepth 100000 in
set_option maxHeartbeats 4000000 in
theorem jfX11_makeJamsKnown_50 {I : kx_S → Prop} (W : fw_ I []) {k2 : Nat → Int32 → kx_S → Prop} (hk2 : ∀ y0 y1 y2, I y2 → k2 y0 y1 y2) {Q : kx_S → Prop} (hQ : ∀ y0, I y0 → Q y0) : ∀ (l0 : Nat) (l1 : Int32) (σ : kx_S), I σ → vX11_makeJamsKnown_50 k2 Q l0 l1 σ := by
  intro l0 l1 σ i
  unfold vX11_makeJamsKnown_50
  intro v1 e1
  exact hk2 _ _ _ i
def vX11_makeJamsKnown_58 (Q : kx_S → Prop) : Nat → Nat → Int32 → kx_S → Prop
  | 0, _, _, _ => True
  | n + 1, l0, l1, σ => xt σ l0 = 13 → ∀ a3, xr σ 211 l0 = some a3 → xt σ a3 = 1 → vJx4a65c_size_8abf5 a3 σ (fun r6 σ5 => ((r6 ≤ l1 → Q σ5) ∧ (¬ (r6 ≤ l1) → xt σ5 l0 = 13 → ∀ a10, xr σ5 211 l0 = some a10 → xt σ5 a10 = 1 → vJx4a65c_get_915e3 a10 l1 σ5 (fun q13 σ12 => ∀ a15, q13 = some a15 → xt σ12 a15 = 4 → ∀ a18, xr σ12 64 a15 = some a18 → xt σ12 a18 = 10 → vX8_makeJamsKnown a18 σ12 (fun σ20 => ∀ v22 : Int32, v22 = l1 + 1 → vX11_makeJamsKnown_58 Q n l0 v22 σ20)))))
set_option maxRecDepth 100000 in
set_option maxHeartbeats 4000000 in
theorem jcX11_makeJamsKnown_58 {Q Q' Q'' : kx_S → Prop} (hQ : ∀ y0, Q y0 → Q' y0 → Q'' y0) : ∀ (n : Nat) (l0 : Nat) (l1 : Int32) (σ : kx_S), wX11_makeJamsKnown_58 Q n l0 l1 σ → vX11_makeJamsKnown_58 Q' n l0 l1 σ → wX11_makeJamsKnown_58 Q'' n l0 l1 σ := by
  intro n
  induction n with
  | zero => intro l0 l1 σ h; exact h.elim
  | succ n ih =>
    intro l0 l1 σ h v
    unfold wX11_makeJamsKnown_58 at h
    unfold vX11_makeJamsKnown_58 at v
    unfold wX11_makeJamsKnown_58
    refine ⟨h.1, ?_⟩
    have v := v h.1
    have h := h.2
    obtain ⟨a3, e2, h⟩ := h
    refine ⟨a3, e2, ?_⟩
    have v := v a3 e2
    refine ⟨h.1, ?_⟩
    have v := v h.1
    have h := h.2
    refine jcJx4a65c_size_8abf5 ?_ _ _ h v
    intro r6 σ5 h v
    refine ⟨?_, ?_⟩
    · have h := h.1
      have v := v.1
      intro e4
      have h := h e4
      have v := v e4
      exact hQ _ h v
    · have h := h.2
      have v := v.2
      intro e5
      have h := h e5
      have v := v e5
      refine ⟨h.1, ?_⟩
      have v := v h.1
      have h := h.2
      obtain ⟨a10, e7, h⟩ := h
      refine ⟨a10, e7, ?_⟩
      have v := v a10 e7
      refine ⟨h.1, ?_⟩
      have v := v h.1
      have h := h.2
      refine jcJx4a65c_get_915e3 ?_ _ _ _ h v
      intro q13 σ12 h v
      obtain ⟨a15, e9, h⟩ := h
      refine ⟨a15, e9, ?_⟩
      have v := v a15 e9
      refine ⟨h.1, ?_⟩
      have v := v h.1
      have h := h.2
      obtain ⟨a18, e11, h⟩ := h
      refine ⟨a18, e11, ?_⟩
      have v := v a18 e11
      refine ⟨h.1, ?_⟩
      have v := v h.1
      have h := h.2
      refine jcX8_makeJamsKnown ?_ _ _ h v
      intro σ20 h v
      intro v22 e13
      have h := h v22 e13
      have v := v v22 e13
      exact ih _ _ _ h v
set_option maxRecDepth 100000 in
set_option maxHeartbeats 4000000 in
theorem jaX11_makeJamsKnown_58 {Q Q' : kx_S → Prop} (hQ : ∀ y0, Q y0 → Q' y0) : ∀ (n m : Nat) (l0 : Nat) (l1 : Int32) (σ : kx_S), wX11_makeJamsKnown_58 Q n l0 l1 σ → vX11_makeJamsKnown_58 Q' m l0 l1 σ := by
  intro n
  induction n with
  | zero => intro m l0 l1 σ h; exact h.elim
  | succ n ih =>
    intro m l0 l1 σ h
    cases m with
    | zero => exact trivial
    | succ m =>
      unfold wX11_makeJamsKnown_58 at h
      unfold vX11_makeJamsKnown_58
      intro e1
      have h := h.2
      obtain ⟨a3', e2, h⟩ := h
      intro a3 e3
      have x9 : a3' = a3 := Option.some.inj (e2.symm.trans e3)
      rw [x9] at h
      intro e4
      have h := h.2
      refine jaJx4a65c_size_8abf5 ?_ _ _ h
      intro r6 σ5 h
      refine ⟨?_, ?_⟩
      · have h := h.1
        intro e5
        have h := h e5
        exact hQ _ h
      · have h := h.2
        intro e6
        have h := h e6
        intro e7
        have h := h.2
        obtain ⟨a10', e8, h⟩ := h
        intro a10 e9
        have x9 : a10' = a10 := Option.some.inj (e8.symm.trans e9)
        rw [x9] at h
        intro e10
        have h := h.2
        refine jaJx4a65c_get_915e3 ?_ _ _ _ h
        intro q13 σ12 h
        obtain ⟨a15', e11, h⟩ := h
        intro a15 e12
        have x9 : a15' = a15 := Option.some.inj (e11.symm.trans e12)
        rw [x9] at h
        intro e13
        have h := h.2
        obtain ⟨a18', e14, h⟩ := h
        intro a18 e15
        have x9 : a18' = a18 := Option.some.inj (e14.symm.trans e15)
        rw [x9] at h
        intro e16
        have h := h.2
        refine jaX8_makeJamsKnown ?_ _ _ h
        intro σ20 h
        intro v22 e17
        have h := h v22 e17
        exact ih m _ _ _ h
set_option maxRecDepth 100000 in
set_option maxHeartbeats 4000000 in
theorem jfX11_makeJamsKnown_58 {I : kx_S → Prop} (W : fw_ I [51]) {Q : kx_S → Prop} (hQ : ∀ y0, I y0 → Q y0) : ∀ (n : Nat) (l0 : Nat) (l1 : Int32) (σ : kx_S), I σ → vX11_makeJamsKnown_58 Q n l0 l1 σ := by
  intro n
  induction n with
  | zero => intro l0 l1 σ i; exact trivial
  | succ n ih =>
    intro l0 l1 σ i
    unfold vX11_makeJamsKnown_58
    intro e1
    intro a3 e2
    intro e3
    refine jfJx4a65c_size_8abf5 (I := I) (fw_sub W (by decide)) ?_ _ _ i
    intro r6 σ5 iσ5
    refine ⟨?_, ?_⟩
    · intro e4
      exact hQ _ iσ5
    · intro e5
      intro e6
      intro a10 e7
      intro e8
      refine jfJx4a65c_get_915e3 (I := I) (fw_sub W (by decide)) ?_ _ _ _ iσ5
      intro q13 σ12 iσ12
      intro a15 e9
      intro e10
      intro a18 e11
      intro e12
      refine jfX8_makeJamsKnown (I := I) (fw_sub W (by decide)) ?_ _ _ iσ12
      intro σ20 iσ20
      intro v22 e13
      exact ih _ _ _ iσ20
def vX11_makeJamsKnown_56 (Q : kx_S → Prop) (l0 : Nat) (σ : kx_S) : Prop := ∀ j, vX11_makeJamsKnown_58 Q j l0 0 σ
set_option maxRecDepth 100000 in
set_option maxHeartbeats 4000000 in
theorem jcX11_makeJamsKnown_56 {Q Q' Q'' : kx_S → Prop} (hQ : ∀ y0, Q y0 → Q' y0 → Q'' y0) : ∀ (l0 : Nat) (σ : kx_S), wX11_makeJamsKnown_56 Q l0 σ → vX11_makeJamsKnown_56 Q' l0 σ → wX11_makeJamsKnown_56 Q'' l0 σ := by
  intro l0 σ h v
  unfold wX11_makeJamsKnown_56 at h
  unfold vX11_makeJamsKnown_56 at v
  unfold wX11_makeJamsKnown_56
  obtain ⟨j, h⟩ := h
  refine ⟨j, ?_⟩
  have v := v j
  exact jcX11_makeJamsKnown_58 hQ _ _ _ _ h v
set_option maxRecDepth 100000 in
set_option maxHeartbeats 4000000 in
theorem jaX11_makeJamsKnown_56 {Q Q' : kx_S → Prop} (hQ : ∀ y0, Q y0 → Q' y0) : ∀ (l0 : Nat) (σ : kx_S), wX11_makeJamsKnown_56 Q l0 σ → vX11_makeJamsKnown_56 Q' l0 σ := by
  intro l0 σ h
  unfold wX11_makeJamsKnown_56 at h
  unfold vX11_makeJamsKnown_56
  obtain ⟨j, h⟩ := h
  intro j9
  exact jaX11_makeJamsKnown_58 hQ _ j9 _ _ _ h
set_option maxRecDepth 100000 in
set_option maxHeartbeats 4000000 in
theorem jfX11_makeJamsKnown_56 {I : kx_S → Prop} (W : fw_ I [51]) {Q : kx_S → Prop} (hQ : ∀ y0, I y0 → Q y0) : ∀ (l0 : Nat) (σ : kx_S), I σ → vX11_makeJamsKnown_56 Q l0 σ := by
  intro l0 σ i
  unfold vX11_makeJamsKnown_56
  intro j
  exact jfX11_makeJamsKnown_58 (I := I) (fw_sub W (by decide)) hQ _ _ _ _ i
def vX11_makeJamsKnown_2 (k56 : Nat → kx_S → Prop) (Q : kx_S → Prop) : Nat → Nat → Int32 → kx_S → Prop
  | 0, _, _, _ => True
  | n + 1, l0, l1, σ => xt σ l0 = 13 → ∀ a25, xr σ 208 l0 = some a25 → xt σ a25 = 1 → vJx4a65c_size_8abf5 a25 σ (fun r28 σ27 => ((r28 ≤ l1 → k56 l0 σ27) ∧ (¬ (r28 ≤ l1) → xt σ27 l0 = 13 → ∀ a32, xr σ27 208 l0 = some a32 → xt σ27 a32 = 1 → vJx4a65c_get_915e3 a32 l1 σ27 (fun q35 σ34 => ∀ a37, q35 = some a37 → xt σ34 a37 = 10 → (((xi σ34 171 a37) = 0 → vX11_makeJamsKnown_50 (vX11_makeJamsKnown_2 k56 Q n) Q l0 l1 σ34) ∧ (¬ ((xi σ34 171 a37) = 0) → xt σ34 l0 = 13 → ∀ a42, xr σ34 208 l0 = some a42 → xt σ34 a42 = 1 → vJx4a65c_get_915e3 a42 l1 σ34 (fun q45 σ44 => ∀ a47, q45 = some a47 → xt σ44 a47 = 10 → vX8_makeJamsKnown a47 σ44 (fun σ50 => vX11_makeJamsKnown_50 (vX11_makeJamsKnown_2 k56 Q n) Q l0 l1 σ50))))))))
set_option maxRecDepth 100000 in
set_option maxHeartbeats 4000000 in
theorem jcX11_makeJamsKnown_2 {k56 k56' k56'' : Nat → kx_S → Prop} (hk56 : ∀ y0 y1, k56 y0 y1 → k56' y0 y1 → k56'' y0 y1) {Q Q' Q'' : kx_S → Prop} (hQ : ∀ y0, Q y0 → Q' y0 → Q'' y0) : ∀ (n : Nat) (l0 : Nat) (l1 : Int32) (σ : kx_S), wX11_makeJamsKnown_2 k56 Q n l0 l1 σ → vX11_makeJamsKnown_2 k56' Q' n l0 l1 σ → wX11_makeJamsKnown_2 k56'' Q'' n l0 l1 σ := by
  intro n
  induction n with
  | zero => intro l0 l1 σ h; exact h.elim
  | succ n ih =>
    intro l0 l1 σ h v
    unfold wX11_makeJamsKnown_2 at h
    unfold vX11_makeJamsKnown_2 at v
    unfold wX11_makeJamsKnown_2
    refine ⟨h.1, ?_⟩
    have v := v h.1
    have h := h.2
    obtain ⟨a25, e2, h⟩ := h
    refine ⟨a25, e2, ?_⟩
    have v := v a25 e2
    refine ⟨h.1, ?_⟩
    have v := v h.1
    have h := h.2
    refine jcJx4a65c_size_8abf5 ?_ _ _ h v
    intro r28 σ27 h v
    refine ⟨?_, ?_⟩
    · have h := h.1
      have v := v.1
      intro e4
      have h := h e4
      have v := v e4
      exact hk56 _ _ h v
    · have h := h.2
      have v := v.2
      intro e5
      have h := h e5
      have v := v e5
      refine ⟨h.1, ?_⟩
      have v := v h.1
      have h := h.2
      obtain ⟨a32, e7, h⟩ := h
      refine ⟨a32, e7, ?_⟩
      have v := v a32 e7
      refine ⟨h.1, ?_⟩
      have v := v h.1
      have h := h.2
      refine jcJx4a65c_get_915e3 ?_ _ _ _ h v
      intro q35 σ34 h v
      obtain ⟨a37, e9, h⟩ := h
      refine ⟨a37, e9, ?_⟩
      have v := v a37 e9
      refine ⟨h.1, ?_⟩
      have v := v h.1
      have h := h.2
      refine ⟨?_, ?_⟩
      · have h := h.1
        have v := v.1
        intro e11
        have h := h e11
        have v := v e11
        exact jcX11_makeJamsKnown_50 (k2 := wX11_makeJamsKnown_2 k56 Q n) (k2' := vX11_makeJamsKnown_2 k56' Q' n) (k2'' := wX11_makeJamsKnown_2 k56'' Q'' n) (fun _ _ _ h v => ih _ _ _ h v) hQ _ _ _ h v
      · have h := h.2
        have v := v.2
        intro e12
        have h := h e12
        have v := v e12
        refine ⟨h.1, ?_⟩
        have v := v h.1
        have h := h.2
        obtain ⟨a42, e14, h⟩ := h
        refine ⟨a42, e14, ?_⟩
        have v := v a42 e14
        refine ⟨h.1, ?_⟩
        have v := v h.1
        have h := h.2
        refine jcJx4a65c_get_915e3 ?_ _ _ _ h v
        intro q45 σ44 h v
        obtain ⟨a47, e16, h⟩ := h
        refine ⟨a47, e16, ?_⟩
        have v := v a47 e16
        refine ⟨h.1, ?_⟩
        have v := v h.1
        have h := h.2
        refine jcX8_makeJamsKnown ?_ _ _ h v
        intro σ50 h v
        exact jcX11_makeJamsKnown_50 (k2 := wX11_makeJamsKnown_2 k56 Q n) (k2' := vX11_makeJamsKnown_2 k56' Q' n) (k2'' := wX11_makeJamsKnown_2 k56'' Q'' n) (fun _ _ _ h v => ih _ _ _ h v) hQ _ _ _ h v
set_option maxRecDepth 100000 in
set_option maxHeartbeats 4000000 in
theorem jaX11_makeJamsKnown_2 {k56 k56' : Nat → kx_S → Prop} (hk56 : ∀ y0 y1, k56 y0 y1 → k56' y0 y1) {Q Q' : kx_S → Prop} (hQ : ∀ y0, Q y0 → Q' y0) : ∀ (n m : Nat) (l0 : Nat) (l1 : Int32) (σ : kx_S), wX11_makeJamsKnown_2 k56 Q n l0 l1 σ → vX11_makeJamsKnown_2 k56' Q' m l0 l1 σ := by
  intro n
  induction n with
  | zero => intro m l0 l1 σ h; exact h.elim
  | succ n ih =>
    intro m l0 l1 σ h
    cases m with
    | zero => exact trivial
    | succ m =>
      unfold wX11_makeJamsKnown_2 at h
      unfold vX11_makeJamsKnown_2
      intro e1
      have h := h.2
      obtain ⟨a25', e2, h⟩ := h
      intro a25 e3
      have x9 : a25' = a25 := Option.some.inj (e2.symm.trans e3)
      rw [x9] at h
      intro e4
      have h := h.2
      refine jaJx4a65c_size_8abf5 ?_ _ _ h
      intro r28 σ27 h
      refine ⟨?_, ?_⟩
      · have h := h.1
        intro e5
        have h := h e5
        exact hk56 _ _ h
      · have h := h.2
        intro e6
        have h := h e6
        intro e7
        have h := h.2
        obtain ⟨a32', e8, h⟩ := h
        intro a32 e9
        have x9 : a32' = a32 := Option.some.inj (e8.symm.trans e9)
        rw [x9] at h
        intro e10
        have h := h.2
        refine jaJx4a65c_get_915e3 ?_ _ _ _ h
        intro q35 σ34 h
        obtain ⟨a37', e11, h⟩ := h
        intro a37 e12
        have x9 : a37' = a37 := Option.some.inj (e11.symm.trans e12)
        rw [x9] at h
        intro e13
        have h := h.2
        refine ⟨?_, ?_⟩
        · have h := h.1
          intro e14
          have h := h e14
          exact jaX11_makeJamsKnown_50 (k2 := wX11_makeJamsKnown_2 k56 Q n) (k2' := vX11_makeJamsKnown_2 k56' Q' m) (fun _ _ _ h => ih m _ _ _ h) hQ _ _ _ h
        · have h := h.2
          intro e15
          have h := h e15
          intro e16
          have h := h.2
          obtain ⟨a42', e17, h⟩ := h
          intro a42 e18
          have x9 : a42' = a42 := Option.some.inj (e17.symm.trans e18)
          rw [x9] at h
          intro e19
          have h := h.2
          refine jaJx4a65c_get_915e3 ?_ _ _ _ h
          intro q45 σ44 h
          obtain ⟨a47', e20, h⟩ := h
          intro a47 e21
          have x9 : a47' = a47 := Option.some.inj (e20.symm.trans e21)
          rw [x9] at h
          intro e22
          have h := h.2
          refine jaX8_makeJamsKnown ?_ _ _ h
          intro σ50 h
          exact jaX11_makeJamsKnown_50 (k2 := wX11_makeJamsKnown_2 k56 Q n) (k2' := vX11_makeJamsKnown_2 k56' Q' m) (fun _ _ _ h => ih m _ _ _ h) hQ _ _ _ h
set_option maxRecDepth 100000 in
set_option maxHeartbeats 4000000 in
theorem jfX11_makeJamsKnown_2 {I : kx_S → Prop} (W : fw_ I [51]) {k56 : Nat → kx_S → Prop} (hk56 : ∀ y0 y1, I y1 → k56 y0 y1) {Q : kx_S → Prop} (hQ : ∀ y0, I y0 → Q y0) : ∀ (n : Nat) (l0 : Nat) (l1 : Int32) (σ : kx_S), I σ → vX11_makeJamsKnown_2 k56 Q n l0 l1 σ := by
  intro n
  induction n with
  | zero => intro l0 l1 σ i; exact trivial
  | succ n ih =>
    intro l0 l1 σ i
    unfold vX11_makeJamsKnown_2
    intro e1
    intro a25 e2
    intro e3
    refine jfJx4a65c_size_8abf5 (I := I) (fw_sub W (by decide)) ?_ _ _ i
    intro r28 σ27 iσ27
    refine ⟨?_, ?_⟩
    · intro e4
      exact hk56 _ _ iσ27
    · intro e5
      intro e6
      intro a32 e7
      intro e8
      refine jfJx4a65c_get_915e3 (I := I) (fw_sub W (by decide)) ?_ _ _ _ iσ27
      intro q35 σ34 iσ34
      intro a37 e9
      intro e10
      refine ⟨?_, ?_⟩
      · intro e11
        exact jfX11_makeJamsKnown_50 (I := I) (fw_sub W (by decide)) (k2 := vX11_makeJamsKnown_2 k56 Q n) (fun _ _ _ i => ih _ _ _ i) hQ _ _ _ iσ34
      · intro e12
        intro e13
        intro a42 e14
        intro e15
        refine jfJx4a65c_get_915e3 (I := I) (fw_sub W (by decide)) ?_ _ _ _ iσ34
        intro q45 σ44 iσ44
        intro a47 e16
        intro e17
        refine jfX8_makeJamsKnown (I := I) (fw_sub W (by decide)) ?_ _ _ iσ44
        intro σ50 iσ50
        exact jfX11_makeJamsKnown_50 (I := I) (fw_sub W (by decide)) (k2 := vX11_makeJamsKnown_2 k56 Q n) (fun _ _ _ i => ih _ _ _ i) hQ _ _ _ iσ50
def vX11_makeJamsKnown (l0 : Nat) (σ : kx_S) (Q : kx_S → Prop) : Prop := ∀ j, vX11_makeJamsKnown_2 (vX11_makeJamsKnown_56 Q) Q j l0 0 σ
set_option maxRecDepth 100000 in
set_option maxHeartbeats 4000000 in
theorem jcX11_makeJamsKnown {Q Q' Q'' : kx_S → Prop} (hQ : ∀ y0, Q y0 → Q' y0 → Q'' y0) : ∀ (l0 : Nat) (σ : kx_S), wX11_makeJamsKnown l0 σ Q → vX11_makeJamsKnown l0 σ Q' → wX11_makeJamsKnown l0 σ Q'' := by
  intro l0 σ h v
  unfold wX11_makeJamsKnown at h
  unfold vX11_makeJamsKnown at v
  unfold wX11_makeJamsKnown
  obtain ⟨j, h⟩ := h
  refine ⟨j, ?_⟩
  have v := v j
  exact jcX11_makeJamsKnown_2 (k56 := wX11_makeJamsKnown_56 Q) (k56' := vX11_makeJamsKnown_56 Q') (k56'' := wX11_makeJamsKnown_56 Q'') (fun _ _ h v => jcX11_makeJamsKnown_56 hQ _ _ h v) hQ _ _ _ _ h v
set_option maxRecDepth 100000 in
set_option maxHeartbeats 4000000 in
theorem jaX11_makeJamsKnown {Q Q' : kx_S → Prop} (hQ : ∀ y0, Q y0 → Q' y0) : ∀ (l0 : Nat) (σ : kx_S), wX11_makeJamsKnown l0 σ Q → vX11_makeJamsKnown l0 σ Q' := by
  intro l0 σ h
  unfold wX11_makeJamsKnown at h
  unfold vX11_makeJamsKnown
  obtain ⟨j, h⟩ := h
  intro j9
  exact jaX11_makeJamsKnown_2 (k56 := wX11_makeJamsKnown_56 Q) (k56' := vX11_makeJamsKnown_56 Q') (fun _ _ h => jaX11_makeJamsKnown_56 hQ _ _ h) hQ _ j9 _ _ _ h
set_option maxRecDepth 100000 in
set_option maxHeartbeats 4000000 in
theorem jfX11_makeJamsKnown {I : kx_S → Prop} (W : fw_ I [51]) {Q : kx_S → Prop} (hQ : ∀ y0, I y0 → Q y0) : ∀ (l0 : Nat) (σ : kx_S), I σ → vX11_makeJamsKnown l0 σ Q := by
  intro l0 σ i
  unfold vX11_makeJamsKnown
  intro j
  exact jfX11_makeJamsKnown_2 (I := I) (fw_sub W (by decide)) (k56 := vX11_makeJamsKnown_56 Q) (fun _ _ i => jfX11_makeJamsKnown_56 (I := I) (fw_sub W (by decide)) hQ _ _ i) hQ _ _ _ _ i
def vX11_ageLogs_66 (k2 : Nat → Int32 → kx_S → Prop) (Q : kx_S → Prop) (l0 : Nat) (l1 : Int32) (σ : kx_S) : Prop := ∀ v1 : Int32, v1 = l1 + 1 → k2 l0 v1 σ
set_option maxRecDepth 100000 in
set_option maxHeartbeats 4000000 in
theorem jcX11_ageLogs_66 {k2 k2' k2'' : Nat → Int32 → kx_S → Prop} (hk2 : ∀ y0 y1 y2, k2 y0 y1 y2 → k2' y0 y1 y2 → k2'' y0 y1 y2) {Q Q' Q'' : kx_S → Prop} (hQ : ∀ y0, Q y0 → Q' y0 → Q'' y0) : ∀ (l0 : Nat) (l1 : Int32) (σ : kx_S), wX11_ageLogs_66 k2 Q l0 l1 σ → vX11_ageLogs_66 k2' Q' l0 l1 σ → wX11_ageLogs_66 k2'' Q'' l0 l1 σ := by
  intro l0 l1 σ h v
  unfold wX11_ageLogs_66 at h
  unfold vX11_ageLogs_66 at v
  unfold wX11_ageLogs_66
  intro v1 e1
  have h := h v1 e1
  have v := v v1 e1
  exact hk2 _ _ _ h v
set_option maxRecDepth 100000 in
set_option maxHeartbeats 4000000 in
theorem jaX11_ageLogs_66 {k2 k2' : Nat → Int32 → kx_S → Prop} (hk2 : ∀ y0 y1 y2, k2 y0 y1 y2 → k2' y0 y1 y2) {Q Q' : kx_S → Prop} (hQ : ∀ y0, Q y0 → Q' y0) : ∀ (l0 : Nat) (l1 : Int32) (σ : kx_S), wX11_ageLogs_66 k2 Q l0 l1 σ → vX11_ageLogs_66 k2' Q' l0 l1 σ := by
  intro l0 l1 σ h
  unfold wX11_ageLogs_66 at h
  unfold vX11_ageLogs_66
  intro v1 e1
  have h := h v1 e1
  exact hk2 _ _ _ h
set_option maxRecDepth 100000 in
set_option maxHeartbeats 4000000 in
theorem jfX11_ageLogs_66 {I : kx_S → Prop} (W : fw_ I []) {k2 : Nat → Int32 → kx_S → Prop} (hk2 : ∀ y0 y1 y2, I y2 → k2 y0 y1 y2) {Q : kx_S → Prop} (hQ : ∀ y0, I y0 → Q y0) : ∀ (l0 : Nat) (l1 : Int32) (σ : kx_S), I σ → vX11_ageLogs_66 k2 Q l0 l1 σ := by
  intro l0 l1 σ i
  unfold vX11_ageLogs_66
  intro v1 e1
  exact hk2 _ _ _ i
def vX11_ageLogs_31 (k66 : Nat → Int32 → kx_S → Prop) (Q : kx_S → Prop) : Nat → Nat → Int32 → Nat → Int32 → kx_S → Prop
  | 0, _, _, _, _, _ => True
  | n + 1, l0, l1, l2, l3, σ => xt σ l2 = 10 → ∀ a3, xr σ 163 l2 = some a3 → xt σ a3 = 1 → vJx4a65c_size_8abf5 a3 σ (fun r6 σ5 => ((r6 ≤ l3 → k66 l0 l1 σ5) ∧ (¬ (r6 ≤ l3) → xt σ5 l2 = 10 → ∀ a10, xr σ5 163 l2 = some a10 → xt σ5 a10 = 1 → vJx4a65c_get_915e3 a10 l3 σ5 (fun q13 σ12 => ∀ a15, q13 = some a15 → xt σ12 a15 = 3 → vX1_ageLogs a15 σ12 (fun σ18 => ∀ v19 : Int32, v19 = l3 + 1 → vX11_ageLogs_31 k66 Q n l0 l1 l2 v19 σ18)))))
set_option maxRecDepth 100000 in
set_option maxHeartbeats 4000000 in
theorem jcX11_ageLogs_31 {k66 k66' k66'' : Nat → Int32 → kx_S → Prop} (hk66 : ∀ y0 y1 y2, k66 y0 y1 y2 → k66' y0 y1 y2 → k66'' y0 y1 y2) {Q Q' Q'' : kx_S → Prop} (hQ : ∀ y0, Q y0 → Q' y0 → Q'' y0) : ∀ (n : Nat) (l0 : Nat) (l1 : Int32) (l2 : Nat) (l3 : Int32) (σ : kx_S), wX11_ageLogs_31 k66 Q n l0 l1 l2 l3 σ → vX11_ageLogs_31 k66' Q' n l0 l1 l2 l3 σ → wX11_ageLogs_31 k66'' Q'' n l0 l1 l2 l3 σ := by
  intro n
  induction n with
  | zero => intro l0 l1 l2 l3 σ h; exact h.elim
  | succ n ih =>
    intro l0 l1 l2 l3 σ h v
    unfold wX11_ageLogs_31 at h
    unfold vX11_ageLogs_31 at v
    unfold wX11_ageLogs_31
    refine ⟨h.1, ?_⟩
    have v := v h.1
    have h := h.2
    obtain ⟨a3, e2, h⟩ := h
    refine ⟨a3, e2, ?_⟩
    have v := v a3 e2
    refine ⟨h.1, ?_⟩
    have v := v h.1
    have h := h.2
    refine jcJx4a65c_size_8abf5 ?_ _ _ h v
    intro r6 σ5 h v
    refine ⟨?_, ?_⟩
    · have h := h.1
      have v := v.1
      intro e4
      have h := h e4
      have v := v e4
      exact hk66 _ _ _ h v
    · have h := h.2
      have v := v.2
      intro e5
      have h := h e5
      have v := v e5
      refine ⟨h.1, ?_⟩
      have v := v h.1
      have h := h.2
      obtain ⟨a10, e7, h⟩ := h
      refine ⟨a10, e7, ?_⟩
      have v := v a10 e7
      refine ⟨h.1, ?_⟩
      have v := v h.1
      have h := h.2
      refine jcJx4a65c_get_915e3 ?_ _ _ _ h v
      intro q13 σ12 h v
      obtain ⟨a15, e9, h⟩ := h
      refine ⟨a15, e9, ?_⟩
      have v := v a15 e9
      refine ⟨h.1, ?_⟩
      have v := v h.1
      have h := h.2
      refine jcX1_ageLogs ?_ _ _ h v
      intro σ18 h v
      intro v19 e11
      have h := h v19 e11
      have v := v v19 e11
      exact ih _ _ _ _ _ h v
set_option maxRecDepth 100000 in
set_option maxHeartbeats 4000000 in
theorem jaX11_ageLogs_31 {k66 k66' : Nat → Int32 → kx_S → Prop} (hk66 : ∀ y0 y1 y2, k66 y0 y1 y2 → k66' y0 y1 y2) {Q Q' : kx_S → Prop} (hQ : ∀ y0, Q y0 → Q' y0) : ∀ (n m : Nat) (l0 : Nat) (l1 : Int32) (l2 : Nat) (l3 : Int32) (σ : kx_S), wX11_ageLogs_31 k66 Q n l0 l1 l2 l3 σ → vX11_ageLogs_31 k66' Q' m l0 l1 l2 l3 σ := by
  intro n
  induction n with
  | zero => intro m l0 l1 l2 l3 σ h; exact h.elim
  | succ n ih =>
    intro m l0 l1 l2 l3 σ h
    cases m with
    | zero => exact trivial
    | succ m =>
      unfold wX11_ageLogs_31 at h
      unfold vX11_ageLogs_31
      intro e1
      have h := h.2
      obtain ⟨a3', e2, h⟩ := h
      intro a3 e3
      have x9 : a3' = a3 := Option.some.inj (e2.symm.trans e3)
      rw [x9] at h
      intro e4
      have h := h.2
      refine jaJx4a65c_size_8abf5 ?_ _ _ h
      intro r6 σ5 h
      refine ⟨?_, ?_⟩
      · have h := h.1
        intro e5
        have h := h e5
        exact hk66 _ _ _ h
      · have h := h.2
        intro e6
        have h := h e6
        intro e7
        have h := h.2
        obtain ⟨a10', e8, h⟩ := h
        intro a10 e9
        have x9 : a10' = a10 := Option.some.inj (e8.symm.trans e9)
        rw [x9] at h
        intro e10
        have h := h.2
        refine jaJx4a65c_get_915e3 ?_ _ _ _ h
        intro q13 σ12 h
        obtain ⟨a15', e11, h⟩ := h
        intro a15 e12
        have x9 : a15' = a15 := Option.some.inj (e11.symm.trans e12)
        rw [x9] at h
        intro e13
        have h := h.2
        refine jaX1_ageLogs ?_ _ _ h
        intro σ18 h
        intro v19 e14
        have h := h v19 e14
        exact ih m _ _ _ _ _ h
set_option maxRecDepth 100000 in
set_option maxHeartbeats 4000000 in
theorem jfX11_ageLogs_31 {I : kx_S → Prop} (W : fw_ I [16, 18, 132, 135, 1003]) {k66 : Nat → Int32 → kx_S → Prop} (hk66 : ∀ y0 y1 y2, I y2 → k66 y0 y1 y2) {Q : kx_S → Prop} (hQ : ∀ y0, I y0 → Q y0) : ∀ (n : Nat) (l0 : Nat) (l1 : Int32) (l2 : Nat) (l3 : Int32) (σ : kx_S), I σ → vX11_ageLogs_31 k66 Q n l0 l1 l2 l3 σ := by
  intro n
  induction n with
  | zero => intro l0 l1 l2 l3 σ i; exact trivial
  | succ n ih =>
    intro l0 l1 l2 l3 σ i
    unfold vX11_ageLogs_31
    intro e1
    intro a3 e2
    intro e3
    refine jfJx4a65c_size_8abf5 (I := I) (fw_sub W (by decide)) ?_ _ _ i
    intro r6 σ5 iσ5
    refine ⟨?_, ?_⟩
    · intro e4
      exact hk66 _ _ _ iσ5
    · intro e5
      intro e6
      intro a10 e7
      intro e8
      refine jfJx4a65c_get_915e3 (I := I) (fw_sub W (by decide)) ?_ _ _ _ iσ5
      intro q13 σ12 iσ12
      intro a15 e9
      intro e10
      refine jfX1_ageLogs (I := I) (fw_sub W (by decide)) ?_ _ _ iσ12
      intro σ18 iσ18
      intro v19 e11
      exact ih _ _ _ _ _ iσ18
def vX11_ageLogs_2 (Q : kx_S → Prop) : Nat → Nat → Int32 → kx_S → Prop
  | 0, _, _, _ => True
  | n + 1, l0, l1, σ => xt σ l0 = 13 → ∀ a21, xr σ 208 l0 = some a21 → xt σ a21 = 1 → vJx4a65c_size_8abf5 a21 σ (fun r24 σ23 => ((r24 ≤ l1 → Q σ23) ∧ (¬ (r24 ≤ l1) → xt σ23 l0 = 13 → ∀ a28, xr σ23 208 l0 = some a28 → xt σ23 a28 = 1 → vJx4a65c_get_915e3 a28 l1 σ23 (fun q31 σ30 => ∀ a33, q31 = some a33 → xt σ30 a33 = 10 → ∀ j, vX11_ageLogs_31 (vX11_ageLogs_66 (vX11_ageLogs_2 Q n) Q) Q j l0 l1 a33 0 σ30))))
set_option maxRecDepth 100000 in
set_option maxHeartbeats 4000000 in
theorem jcX11_ageLogs_2 {Q Q' Q'' : kx_S → Prop} (hQ : ∀ y0, Q y0 → Q' y0 → Q'' y0) : ∀ (n : Nat) (l0 : Nat) (l1 : Int32) (σ : kx_S), wX11_ageLogs_2 Q n l0 l1 σ → vX11_ageLogs_2 Q' n l0 l1 σ → wX11_ageLogs_2 Q'' n l0 l1 σ := by
  intro n
  induction n with
  | zero => intro l0 l1 σ h; exact h.elim
  | succ n ih =>
    intro l0 l1 σ h v
    unfold wX11_ageLogs_2 at h
    unfold vX11_ageLogs_2 at v
    unfold wX11_ageLogs_2
    refine ⟨h.1, ?_⟩
    have v := v h.1
    have h := h.2
    obtain ⟨a21, e2, h⟩ := h
    refine ⟨a21, e2, ?_⟩
    have v := v a21 e2
    refine ⟨h.1, ?_⟩
    have v := v h.1
    have h := h.2
    refine jcJx4a65c_size_8abf5 ?_ _ _ h v
    intro r24 σ23 h v
    refine ⟨?_, ?_⟩
    · have h := h.1
      have v := v.1
      intro e4
      have h := h e4
      have v := v e4
      exact hQ _ h v
    · have h := h.2
      have v := v.2
      intro e5
      have h := h e5
      have v := v e5
      refine ⟨h.1, ?_⟩
      have v := v h.1
      have h := h.2
      obtain ⟨a28, e7, h⟩ := h
      refine ⟨a28, e7, ?_⟩
      have v := v a28 e7
      refine ⟨h.1, ?_⟩
      have v := v h.1
      have h := h.2
      refine jcJx4a65c_get_915e3 ?_ _ _ _ h v
      intro q31 σ30 h v
      obtain ⟨a33, e9, h⟩ := h
      refine ⟨a33, e9, ?_⟩
      have v := v a33 e9
      refine ⟨h.1, ?_⟩
      have v := v h.1
      have h := h.2
      obtain ⟨j, h⟩ := h
      refine ⟨j, ?_⟩
      have v := v j
      exact jcX11_ageLogs_31 (k66 := wX11_ageLogs_66 (wX11_ageLogs_2 Q n) Q) (k66' := vX11_ageLogs_66 (vX11_ageLogs_2 Q' n) Q') (k66'' := wX11_ageLogs_66 (wX11_ageLogs_2 Q'' n) Q'') (fun _ _ _ h v => jcX11_ageLogs_66 (k2 := wX11_ageLogs_2 Q n) (k2' := vX11_ageLogs_2 Q' n) (k2'' := wX11_ageLogs_2 Q'' n) (fun _ _ _ h v => ih _ _ _ h v) hQ _ _ _ h v) hQ _ _ _ _ _ _ h v
set_option maxRecDepth 100000 in
set_option maxHeartbeats 4000000 in
theorem jaX11_ageLogs_2 {Q Q' : kx_S → Prop} (hQ : ∀ y0, Q y0 → Q' y0) : ∀ (n m : Nat) (l0 : Nat) (l1 : Int32) (σ : kx_S), wX11_ageLogs_2 Q n l0 l1 σ → vX11_ageLogs_2 Q' m l0 l1 σ := by
  intro n
  induction n with
  | zero => intro m l0 l1 σ h; exact h.elim
  | succ n ih =>
    intro m l0 l1 σ h
    cases m with
    | zero => exact trivial
    | succ m =>
      unfold wX11_ageLogs_2 at h
      unfold vX11_ageLogs_2
      intro e1
      have h := h.2
      obtain ⟨a21', e2, h⟩ := h
      intro a21 e3
      have x9 : a21' = a21 := Option.some.inj (e2.symm.trans e3)
      rw [x9] at h
      intro e4
      have h := h.2
      refine jaJx4a65c_size_8abf5 ?_ _ _ h
      intro r24 σ23 h
      refine ⟨?_, ?_⟩
      · have h := h.1
        intro e5
        have h := h e5
        exact hQ _ h
      · have h := h.2
        intro e6
        have h := h e6
        intro e7
        have h := h.2
        obtain ⟨a28', e8, h⟩ := h
        intro a28 e9
        have x9 : a28' = a28 := Option.some.inj (e8.symm.trans e9)
        rw [x9] at h
        intro e10
        have h := h.2
        refine jaJx4a65c_get_915e3 ?_ _ _ _ h
        intro q31 σ30 h
        obtain ⟨a33', e11, h⟩ := h
        intro a33 e12
        have x9 : a33' = a33 := Option.some.inj (e11.symm.trans e12)
        rw [x9] at h
        intro e13
        have h := h.2
        obtain ⟨j, h⟩ := h
        intro j9
        exact jaX11_ageLogs_31 (k66 := wX11_ageLogs_66 (wX11_ageLogs_2 Q n) Q) (k66' := vX11_ageLogs_66 (vX11_ageLogs_2 Q' m) Q') (fun _ _ _ h => jaX11_ageLogs_66 (k2 := wX11_ageLogs_2 Q n) (k2' := vX11_ageLogs_2 Q' m) (fun _ _ _ h => ih m _ _ _ h) hQ _ _ _ h) hQ _ j9 _ _ _ _ _ h
set_option maxRecDepth 100000 in
set_option maxHeartbeats 4000000 in
theorem jfX11_ageLogs_2 {I : kx_S → Prop} (W : fw_ I [16, 18, 132, 135, 1003]) {Q : kx_S → Prop} (hQ : ∀ y0, I y0 → Q y0) : ∀ (n : Nat) (l0 : Nat) (l1 : Int32) (σ : kx_S), I σ → vX11_ageLogs_2 Q n l0 l1 σ := by
  intro n
  induction n with
  | zero => intro l0 l1 σ i; exact trivial
  | succ n ih =>
    intro l0 l1 σ i
    unfold vX11_ageLogs_2
    intro e1
    intro a21 e2
    intro e3
    refine jfJx4a65c_size_8abf5 (I := I) (fw_sub W (by decide)) ?_ _ _ i
    intro r24 σ23 iσ23
    refine ⟨?_, ?_⟩
    · intro e4
      exact hQ _ iσ23
    · intro e5
      intro e6
      intro a28 e7
      intro e8
      refine jfJx4a65c_get_915e3 (I := I) (fw_sub W (by decide)) ?_ _ _ _ iσ23
      intro q31 σ30 iσ30
      intro a33 e9
      intro e10
      intro j
      exact jfX11_ageLogs_31 (I := I) (fw_sub W (by decide)) (k66 := vX11_ageLogs_66 (vX11_ageLogs_2 Q n) Q) (fun _ _ _ i => jfX11_ageLogs_66 (I := I) (fw_sub W (by decide)) (k2 := vX11_ageLogs_2 Q n) (fun _ _ _ i => ih _ _ _ i) hQ _ _ _ i) hQ _ _ _ _ _ _ iσ30
def vX11_ageLogs (l0 : Nat) (σ : kx_S) (Q : kx_S → Prop) : Prop := ∀ j, vX11_ageLogs_2 Q j l0 0 σ
set_option maxRecDepth 100000 in
set_option maxHeartbeats 4000000 in
theorem jcX11_ageLogs {Q Q' Q'' : kx_S → Prop} (hQ : ∀ y0, Q y0 → Q' y0 → Q'' y0) : ∀ (l0 : Nat) (σ : kx_S), wX11_ageLogs l0 σ Q → vX11_ageLogs l0 σ Q' → wX11_ageLogs l0 σ Q'' := by
  intro l0 σ h v
  unfold wX11_ageLogs at h
  unfold vX11_ageLogs at v
  unfold wX11_ageLogs
  obtain ⟨j, h⟩ := h
  refine ⟨j, ?_⟩
  have v := v j
  exact jcX11_ageLogs_2 hQ _ _ _ _ h v
set_option maxRecDepth 100000 in
set_option maxHeartbeats 4000000 in
theorem jaX11_ageLogs {Q Q' : kx_S → Prop} (hQ : ∀ y0, Q y0 → Q' y0) : ∀ (l0 : Nat) (σ : kx_S), wX11_ageLogs l0 σ Q → vX11_ageLogs l0 σ Q' := by
  intro l0 σ h
  unfold wX11_ageLogs at h
  unfold vX11_ageLogs
  obtain ⟨j, h⟩ := h
  intro j9
  exact jaX11_ageLogs_2 hQ _ j9 _ _ _ h
set_option maxRecDepth 100000 in
set_option maxHeartbeats 4000000 in
theorem jfX11_ageLogs {I : kx_S → Prop} (W : fw_ I [16, 18, 132, 135, 1003]) {Q : kx_S → Prop} (hQ : ∀ y0, I y0 → Q y0) : ∀ (l0 : Nat) (σ : kx_S), I σ → vX11_ageLogs l0 σ Q := by
  intro l0 σ i
  unfold vX11_ageLogs
  intro j
  exact jfX11_ageLogs_2 (I := I) (fw_sub W (by decide)) hQ _ _ _ _ i
def vX11_sawFor_25 (k3 : Nat → Nat → Nat → Int32 → Int32 → kx_S → Prop) (Q : Int32 → kx_S → Prop) (l0 : Nat) (l1 : Nat) (l2 : Nat) (l3 : Int32) (l4 : Int32) (s0 : Option Nat) (σ : kx_S) : Prop := ((∀ a2, s0 = some a2 → xt σ l0 = 13 → xt σ a2 = 8 → vX6_becomeBoards a2 (xi σ 218 l0) σ (fun σ4 => xt σ4 l0 = 13 → xt σ4 a2 = 8 → ∀ σ8, σ8 = xsi σ4 218 l0 ((xi σ4 218 l0) + (xi σ4 130 a2)) → xt σ8 l1 = 9 → ∀ σ12, σ12 = xsi σ8 146 l1 ((xi σ8 146 l1) - 1) → ∀ v16 : Int32, v16 = l4 + 1 → k3 l0 l1 l2 l3 v16 σ12)) ∧ (s0 = none → Q l4 σ))
set_option maxRecDepth 100000 in
set_option maxHeartbeats 4000000 in
theorem jcX11_sawFor_25 {k3 k3' k3'' : Nat → Nat → Nat → Int32 → Int32 → kx_S → Prop} (hk3 : ∀ y0 y1 y2 y3 y4 y5, k3 y0 y1 y2 y3 y4 y5 → k3' y0 y1 y2 y3 y4 y5 → k3'' y0 y1 y2 y3 y4 y5) {Q Q' Q'' : Int32 → kx_S → Prop} (hQ : ∀ y0 y1, Q y0 y1 → Q' y0 y1 → Q'' y0 y1) : ∀ (l0 : Nat) (l1 : Nat) (l2 : Nat) (l3 : Int32) (l4 : Int32) (s0 : Option Nat) (σ : kx_S), wX11_sawFor_25 k3 Q l0 l1 l2 l3 l4 s0 σ → vX11_sawFor_25 k3' Q' l0 l1 l2 l3 l4 s0 σ → wX11_sawFor_25 k3'' Q'' l0 l1 l2 l3 l4 s0 σ := by
  intro l0 l1 l2 l3 l4 s0 σ h v
  unfold wX11_sawFor_25 at h
  unfold vX11_sawFor_25 at v
  unfold wX11_sawFor_25
  refine ⟨?_, ?_⟩
  · have h := h.1
    have v := v.1
    intro a2 e1
    have h := h a2 e1
    have v := v a2 e1
    refine ⟨h.1, ?_⟩
    have v := v h.1
    have h := h.2
    refine ⟨h.1, ?_⟩
    have v := v h.1
    have h := h.2
    refine jcX6_becomeBoards ?_ _ _ _ h v
    intro σ4 h v
    refine ⟨h.1, ?_⟩
    have v := v h.1
    have h := h.2
    refine ⟨h.1, ?_⟩
    have v := v h.1
    have h := h.2
    intro σ8 e6
    have h := h σ8 e6
    have v := v σ8 e6
    refine ⟨h.1, ?_⟩
    have v := v h.1
    have h := h.2
    intro σ12 e8
    have h := h σ12 e8
    have v := v σ12 e8
    intro v16 e9
    have h := h v16 e9
    have v := v v16 e9
    exact hk3 _ _ _ _ _ _ h v
  · have h := h.2
    have v := v.2
    intro e10
    have h := h e10
    have v := v e10
    exact hQ _ _ h v
set_option maxRecDepth 100000 in
set_option maxHeartbeats 4000000 in
theorem jaX11_sawFor_25 {k3 k3' : Nat → Nat → Nat → Int32 → Int32 → kx_S → Prop} (hk3 : ∀ y0 y1 y2 y3 y4 y5, k3 y0 y1 y2 y3 y4 y5 → k3' y0 y1 y2 y3 y4 y5) {Q Q' : Int32 → kx_S → Prop} (hQ : ∀ y0 y1, Q y0 y1 → Q' y0 y1) : ∀ (l0 : Nat) (l1 : Nat) (l2 : Nat) (l3 : Int32) (l4 : Int32) (s0 : Option Nat) (σ : kx_S), wX11_sawFor_25 k3 Q l0 l1 l2 l3 l4 s0 σ → vX11_sawFor_25 k3' Q' l0 l1 l2 l3 l4 s0 σ := by
  intro l0 l1 l2 l3 l4 s0 σ h
  unfold wX11_sawFor_25 at h
  unfold vX11_sawFor_25
  refine ⟨?_, ?_⟩
  · have h := h.1
    intro a2 e1
    have h := h a2 e1
    intro e2
    have h := h.2
    intro e3
    have h := h.2
    refine jaX6_becomeBoards ?_ _ _ _ h
    intro σ4 h
    intro e4
    have h := h.2
    intro e5
    have h := h.2
    intro σ8 e6
    have h := h σ8 e6
    intro e7
    have h := h.2
    intro σ12 e8
    have h := h σ12 e8
    intro v16 e9
    have h := h v16 e9
    exact hk3 _ _ _ _ _ _ h
  · have h := h.2
    intro e10
    have h := h e10
    exact hQ _ _ h
set_option maxRecDepth 100000 in
set_option maxHeartbeats 4000000 in
theorem jfX11_sawFor_25 {I : kx_S → Prop} (W : fw_ I [132, 136, 146, 218]) {k3 : Nat → Nat → Nat → Int32 → Int32 → kx_S → Prop} (hk3 : ∀ y0 y1 y2 y3 y4 y5, I y5 → k3 y0 y1 y2 y3 y4 y5) {Q : Int32 → kx_S → Prop} (hQ : ∀ y0 y1, I y1 → Q y0 y1) : ∀ (l0 : Nat) (l1 : Nat) (l2 : Nat) (l3 : Int32) (l4 : Int32) (s0 : Option Nat) (σ : kx_S), I σ → vX11_sawFor_25 k3 Q l0 l1 l2 l3 l4 s0 σ := by
  intro l0 l1 l2 l3 l4 s0 σ i
  unfold vX11_sawFor_25
  refine ⟨?_, ?_⟩
  · intro a2 e1
    intro e2
    intro e3
    refine jfX6_becomeBoards (I := I) (fw_sub W (by decide)) ?_ _ _ _ i
    intro σ4 iσ4
    intro e4
    intro e5
    intro σ8 e6
    have iσ8 : I σ8 := by rw [e6]; exact ((W _ iσ4).1 218 (by decide)).1 _ _
    intro e7
    intro σ12 e8
    have iσ12 : I σ12 := by rw [e8]; exact ((W _ iσ8).1 146 (by decide)).1 _ _
    intro v16 e9
    exact hk3 _ _ _ _ _ _ iσ12
  · intro e10
    exact hQ _ _ i
def vX11_sawFor_3 (Q : Int32 → kx_S → Prop) : Nat → Nat → Nat → Nat → Int32 → Int32 → kx_S → Prop
  | 0, _, _, _, _, _, _ => True
  | n + 1, l0, l1, l2, l3, l4, σ => ((l3 ≤ l4 → Q l3 σ) ∧ (¬ (l3 ≤ l4) → xt σ l1 = 9 → (((xi σ 146 l1) ≤ 0 → vX11_sawFor_25 (vX11_sawFor_3 Q n) Q l0 l1 l2 l3 l4 none σ) ∧ (¬ ((xi σ 146 l1) ≤ 0) → xt σ l2 = 2 → vX0_takeFirstFor l2 l1 σ (fun q21 σ20 => vX11_sawFor_25 (vX11_sawFor_3 Q n) Q l0 l1 l2 l3 l4 q21 σ20)))))
set_option maxRecDepth 100000 in
set_option maxHeartbeats 4000000 in
theorem jcX11_sawFor_3 {Q Q' Q'' : Int32 → kx_S → Prop} (hQ : ∀ y0 y1, Q y0 y1 → Q' y0 y1 → Q'' y0 y1) : ∀ (n : Nat) (l0 : Nat) (l1 : Nat) (l2 : Nat) (l3 : Int32) (l4 : Int32) (σ : kx_S), wX11_sawFor_3 Q n l0 l1 l2 l3 l4 σ → vX11_sawFor_3 Q' n l0 l1 l2 l3 l4 σ → wX11_sawFor_3 Q'' n l0 l1 l2 l3 l4 σ := by
  intro n
  induction n with
  | zero => intro l0 l1 l2 l3 l4 σ h; exact h.elim
  | succ n ih =>
    intro l0 l1 l2 l3 l4 σ h v
    unfold wX11_sawFor_3 at h
    unfold vX11_sawFor_3 at v
    unfold wX11_sawFor_3
    refine ⟨?_, ?_⟩
    · have h := h.1
      have v := v.1
      intro e1
      have h := h e1
      have v := v e1
      exact hQ _ _ h v
    · have h := h.2
      have v := v.2
      intro e2
      have h := h e2
      have v := v e2
      refine ⟨h.1, ?_⟩
      have v := v h.1
      have h := h.2
      refine ⟨?_, ?_⟩
      · have h := h.1
        have v := v.1
        intro e4
        have h := h e4
        have v := v e4
        exact jcX11_sawFor_25 (k3 := wX11_sawFor_3 Q n) (k3' := vX11_sawFor_3 Q' n) (k3'' := wX11_sawFor_3 Q'' n) (fun _ _ _ _ _ _ h v => ih _ _ _ _ _ _ h v) hQ _ _ _ _ _ _ _ h v
      · have h := h.2
        have v := v.2
        intro e5
        have h := h e5
        have v := v e5
        refine ⟨h.1, ?_⟩
        have v := v h.1
        have h := h.2
        refine jcX0_takeFirstFor ?_ _ _ _ h v
        intro q21 σ20 h v
        exact jcX11_sawFor_25 (k3 := wX11_sawFor_3 Q n) (k3' := vX11_sawFor_3 Q' n) (k3'' := wX11_sawFor_3 Q'' n) (fun _ _ _ _ _ _ h v => ih _ _ _ _ _ _ h v) hQ _ _ _ _ _ _ _ h v
set_option maxRecDepth 100000 in
set_option maxHeartbeats 4000000 in
theorem jaX11_sawFor_3 {Q Q' : Int32 → kx_S → Prop} (hQ : ∀ y0 y1, Q y0 y1 → Q' y0 y1) : ∀ (n m : Nat) (l0 : Nat) (l1 : Nat) (l2 : Nat) (l3 : Int32) (l4 : Int32) (σ : kx_S), wX11_sawFor_3 Q n l0 l1 l2 l3 l4 σ → vX11_sawFor_3 Q' m l0 l1 l2 l3 l4 σ := by
  intro n
  induction n with
  | zero => intro m l0 l1 l2 l3 l4 σ h; exact h.elim
  | succ n ih =>
    intro m l0 l1 l2 l3 l4 σ h
    cases m with
    | zero => exact trivial
    | succ m =>
      unfold wX11_sawFor_3 at h
      unfold vX11_sawFor_3
      refine ⟨?_, ?_⟩
      · have h := h.1
        intro e1
        have h := h e1
        exact hQ _ _ h
      · have h := h.2
        intro e2
        have h := h e2
        intro e3
        have h := h.2
        refine ⟨?_, ?_⟩
        · have h := h.1
          intro e4
          have h := h e4
          exact jaX11_sawFor_25 (k3 := wX11_sawFor_3 Q n) (k3' := vX11_sawFor_3 Q' m) (fun _ _ _ _ _ _ h => ih m _ _ _ _ _ _ h) hQ _ _ _ _ _ _ _ h
        · have h := h.2
          intro e5
          have h := h e5
          intro e6
          have h := h.2
          refine jaX0_takeFirstFor ?_ _ _ _ h
          intro q21 σ20 h
          exact jaX11_sawFor_25 (k3 := wX11_sawFor_3 Q n) (k3' := vX11_sawFor_3 Q' m) (fun _ _ _ _ _ _ h => ih m _ _ _ _ _ _ h) hQ _ _ _ _ _ _ _ h
set_option maxRecDepth 100000 in
set_option maxHeartbeats 4000000 in
theorem jfX11_sawFor_3 {I : kx_S → Prop} (W : fw_ I [16, 18, 132, 136, 146, 218, 1003]) {Q : Int32 → kx_S → Prop} (hQ : ∀ y0 y1, I y1 → Q y0 y1) : ∀ (n : Nat) (l0 : Nat) (l1 : Nat) (l2 : Nat) (l3 : Int32) (l4 : Int32) (σ : kx_S), I σ → vX11_sawFor_3 Q n l0 l1 l2 l3 l4 σ := by
  intro n
  induction n with
  | zero => intro l0 l1 l2 l3 l4 σ i; exact trivial
  | succ n ih =>
    intro l0 l1 l2 l3 l4 σ i
    unfold vX11_sawFor_3
    refine ⟨?_, ?_⟩
    · intro e1
      exact hQ _ _ i
    · intro e2
      intro e3
      refine ⟨?_, ?_⟩
      · intro e4
        exact jfX11_sawFor_25 (I := I) (fw_sub W (by decide)) (k3 := vX11_sawFor_3 Q n) (fun _ _ _ _ _ _ i => ih _ _ _ _ _ _ i) hQ _ _ _ _ _ _ _ i
      · intro e5
        intro e6
        refine jfX0_takeFirstFor (I := I) (fw_sub W (by decide)) ?_ _ _ _ i
        intro q21 σ20 iσ20
        exact jfX11_sawFor_25 (I := I) (fw_sub W (by decide)) (k3 := vX11_sawFor_3 Q n) (fun _ _ _ _ _ _ i => ih _ _ _ _ _ _ i) hQ _ _ _ _ _ _ _ iσ20

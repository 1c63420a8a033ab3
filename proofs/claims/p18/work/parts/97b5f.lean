section
def vX11_countJams_35 (k99 : Nat → Int32 → Int32 → Int32 → kx_S → Prop) (Q : Int32 → kx_S → Prop) : Nat → Nat → Int32 → Int32 → Int32 → Nat → Int32 → kx_S → Prop
  | 0, _, _, _, _, _, _, _ => True
  | n + 1, l0, l1, l2, l3, l4, l5, σ => xt σ l4 = 10 → ∀ a5, xr σ 163 l4 = some a5 → xt σ a5 = 1 → vJx4a65c_size_8abf5 a5 σ (fun r8 σ7 => ((r8 ≤ l5 → k99 l0 l1 l2 l3 σ7) ∧ (¬ (r8 ≤ l5) → xt σ7 l4 = 10 → ∀ a12, xr σ7 163 l4 = some a12 → xt σ7 a12 = 1 → vJx4a65c_get_915e3 a12 l5 σ7 (fun q15 σ14 => ∀ a17, q15 = some a17 → xt σ14 a17 = 3 → ((l1 = 0 → (((xi σ14 50 a17) = 0 → vX11_countJams_93 (vX11_countJams_35 k99 Q n) Q l0 l1 l2 l3 l4 l5 σ14) ∧ (¬ ((xi σ14 50 a17) = 0) → vX11_countJams_90 (vX11_countJams_93 (vX11_countJams_35 k99 Q n) Q) Q l0 l1 l2 l3 l4 l5 σ14))) ∧ (¬ (l1 = 0) → (((xi σ14 51 a17) = 0 → vX11_countJams_93 (vX11_countJams_35 k99 Q n) Q l0 l1 l2 l3 l4 l5 σ14) ∧ (¬ ((xi σ14 51 a17) = 0) → vX11_countJams_90 (vX11_countJams_93 (vX11_countJams_35 k99 Q n) Q) Q l0 l1 l2 l3 l4 l5 σ14))))))))
set_option maxRecDepth 100000 in
set_option maxHeartbeats 4000000 in
theorem jcX11_countJams_35 {k99 k99' k99'' : Nat → Int32 → Int32 → Int32 → kx_S → Prop} (hk99 : ∀ y0 y1 y2 y3 y4, k99 y0 y1 y2 y3 y4 → k99' y0 y1 y2 y3 y4 → k99'' y0 y1 y2 y3 y4) {Q Q' Q'' : Int32 → kx_S → Prop} (hQ : ∀ y0 y1, Q y0 y1 → Q' y0 y1 → Q'' y0 y1) : ∀ (n : Nat) (l0 : Nat) (l1 : Int32) (l2 : Int32) (l3 : Int32) (l4 : Nat) (l5 : Int32) (σ : kx_S), wX11_countJams_35 k99 Q n l0 l1 l2 l3 l4 l5 σ → vX11_countJams_35 k99' Q' n l0 l1 l2 l3 l4 l5 σ → wX11_countJams_35 k99'' Q'' n l0 l1 l2 l3 l4 l5 σ := by
  intro n
  induction n with
  | zero => intro l0 l1 l2 l3 l4 l5 σ h; exact h.elim
  | succ n ih =>
    intro l0 l1 l2 l3 l4 l5 σ h v
    unfold wX11_countJams_35 at h
    unfold vX11_countJams_35 at v
    unfold wX11_countJams_35
    refine ⟨h.1, ?_⟩
    have v := v h.1
    have h := h.2
    obtain ⟨a5, e2, h⟩ := h
    refine ⟨a5, e2, ?_⟩
    have v := v a5 e2
    refine ⟨h.1, ?_⟩
    have v := v h.1
    have h := h.2
    refine jcJx4a65c_size_8abf5 ?_ _ _ h v
    intro r8 σ7 h v
    refine ⟨?_, ?_⟩
    · have h := h.1
      have v := v.1
      intro e4
      have h := h e4
      have v := v e4
      exact hk99 _ _ _ _ _ h v
    · have h := h.2
      have v := v.2
      intro e5
      have h := h e5
      have v := v e5
      refine ⟨h.1, ?_⟩
      have v := v h.1
      have h := h.2
      obtain ⟨a12, e7, h⟩ := h
      refine ⟨a12, e7, ?_⟩
      have v := v a12 e7
      refine ⟨h.1, ?_⟩
      have v := v h.1
      have h := h.2
      refine jcJx4a65c_get_915e3 ?_ _ _ _ h v
      intro q15 σ14 h v
      obtain ⟨a17, e9, h⟩ := h
      refine ⟨a17, e9, ?_⟩
      have v := v a17 e9
      refine ⟨h.1, ?_⟩
      have v := v h.1
      have h := h.2
      refine ⟨?_, ?_⟩
      · have h := h.1
        have v := v.1
        intro e11
        have h := h e11
        have v := v e11
        refine ⟨?_, ?_⟩
        · have h := h.1
          have v := v.1
          intro e12
          have h := h e12
          have v := v e12
          exact jcX11_countJams_93 (k35 := wX11_countJams_35 k99 Q n) (k35' := vX11_countJams_35 k99' Q' n) (k35'' := wX11_countJams_35 k99'' Q'' n) (fun _ _ _ _ _ _ _ h v => ih _ _ _ _ _ _ _ h v) hQ _ _ _ _ _ _ _ h v
        · have h := h.2
          have v := v.2
          intro e13
          have h := h e13
          have v := v e13
          exact jcX11_countJams_90 (k93 := wX11_countJams_93 (wX11_countJams_35 k99 Q n) Q) (k93' := vX11_countJams_93 (vX11_countJams_35 k99' Q' n) Q') (k93'' := wX11_countJams_93 (wX11_countJams_35 k99'' Q'' n) Q'') (fun _ _ _ _ _ _ _ h v => jcX11_countJams_93 (k35 := wX11_countJams_35 k99 Q n) (k35' := vX11_countJams_35 k99' Q' n) (k35'' := wX11_countJams_35 k99'' Q'' n) (fun _ _ _ _ _ _ _ h v => ih _ _ _ _ _ _ _ h v) hQ _ _ _ _ _ _ _ h v) hQ _ _ _ _ _ _ _ h v
      · have h := h.2
        have v := v.2
        intro e14
        have h := h e14
        have v := v e14
        refine ⟨?_, ?_⟩
        · have h := h.1
          have v := v.1
          intro e15
          have h := h e15
          have v := v e15
          exact jcX11_countJams_93 (k35 := wX11_countJams_35 k99 Q n) (k35' := vX11_countJams_35 k99' Q' n) (k35'' := wX11_countJams_35 k99'' Q'' n) (fun _ _ _ _ _ _ _ h v => ih _ _ _ _ _ _ _ h v) hQ _ _ _ _ _ _ _ h v
        · have h := h.2
          have v := v.2
          intro e16
          have h := h e16
          have v := v e16
          exact jcX11_countJams_90 (k93 := wX11_countJams_93 (wX11_countJams_35 k99 Q n) Q) (k93' := vX11_countJams_93 (vX11_countJams_35 k99' Q' n) Q') (k93'' := wX11_countJams_93 (wX11_countJams_35 k99'' Q'' n) Q'') (fun _ _ _ _ _ _ _ h v => jcX11_countJams_93 (k35 := wX11_countJams_35 k99 Q n) (k35' := vX11_countJams_35 k99' Q' n) (k35'' := wX11_countJams_35 k99'' Q'' n) (fun _ _ _ _ _ _ _ h v => ih _ _ _ _ _ _ _ h v) hQ _ _ _ _ _ _ _ h v) hQ _ _ _ _ _ _ _ h v
set_option maxRecDepth 100000 in
set_option maxHeartbeats 4000000 in
theorem jaX11_countJams_35 {k99 k99' : Nat → Int32 → Int32 → Int32 → kx_S → Prop} (hk99 : ∀ y0 y1 y2 y3 y4, k99 y0 y1 y2 y3 y4 → k99' y0 y1 y2 y3 y4) {Q Q' : Int32 → kx_S → Prop} (hQ : ∀ y0 y1, Q y0 y1 → Q' y0 y1) : ∀ (n m : Nat) (l0 : Nat) (l1 : Int32) (l2 : Int32) (l3 : Int32) (l4 : Nat) (l5 : Int32) (σ : kx_S), wX11_countJams_35 k99 Q n l0 l1 l2 l3 l4 l5 σ → vX11_countJams_35 k99' Q' m l0 l1 l2 l3 l4 l5 σ := by
  intro n
  induction n with
  | zero => intro m l0 l1 l2 l3 l4 l5 σ h; exact h.elim
  | succ n ih =>
    intro m l0 l1 l2 l3 l4 l5 σ h
    cases m with
    | zero => exact trivial
    | succ m =>
      unfold wX11_countJams_35 at h
      unfold vX11_countJams_35
      intro e1
      have h := h.2
      obtain ⟨a5', e2, h⟩ := h
      intro a5 e3
      have x9 : a5' = a5 := Option.some.inj (e2.symm.trans e3)
      rw [x9] at h
      intro e4
      have h := h.2
      refine jaJx4a65c_size_8abf5 ?_ _ _ h
      intro r8 σ7 h
      refine ⟨?_, ?_⟩
      · have h := h.1
        intro e5
        have h := h e5
        exact hk99 _ _ _ _ _ h
      · have h := h.2
        intro e6
        have h := h e6
        intro e7
        have h := h.2
        obtain ⟨a12', e8, h⟩ := h
        intro a12 e9
        have x9 : a12' = a12 := Option.some.inj (e8.symm.trans e9)
        rw [x9] at h
        intro e10
        have h := h.2
        refine jaJx4a65c_get_915e3 ?_ _ _ _ h
        intro q15 σ14 h
        obtain ⟨a17', e11, h⟩ := h
        intro a17 e12
        have x9 : a17' = a17 := Option.some.inj (e11.symm.trans e12)
        rw [x9] at h
        intro e13
        have h := h.2
        refine ⟨?_, ?_⟩
        · have h := h.1
          intro e14
          have h := h e14
          refine ⟨?_, ?_⟩
          · have h := h.1
            intro e15
            have h := h e15
            exact jaX11_countJams_93 (k35 := wX11_countJams_35 k99 Q n) (k35' := vX11_countJams_35 k99' Q' m) (fun _ _ _ _ _ _ _ h => ih m _ _ _ _ _ _ _ h) hQ _ _ _ _ _ _ _ h
          · have h := h.2
            intro e16
            have h := h e16
            exact jaX11_countJams_90 (k93 := wX11_countJams_93 (wX11_countJams_35 k99 Q n) Q) (k93' := vX11_countJams_93 (vX11_countJams_35 k99' Q' m) Q') (fun _ _ _ _ _ _ _ h => jaX11_countJams_93 (k35 := wX11_countJams_35 k99 Q n) (k35' := vX11_countJams_35 k99' Q' m) (fun _ _ _ _ _ _ _ h => ih m _ _ _ _ _ _ _ h) hQ _ _ _ _ _ _ _ h) hQ _ _ _ _ _ _ _ h
        · have h := h.2
          intro e17
          have h := h e17
          refine ⟨?_, ?_⟩
          · have h := h.1
            intro e18
            have h := h e18
            exact jaX11_countJams_93 (k35 := wX11_countJams_35 k99 Q n) (k35' := vX11_countJams_35 k99' Q' m) (fun _ _ _ _ _ _ _ h => ih m _ _ _ _ _ _ _ h) hQ _ _ _ _ _ _ _ h
          · have h := h.2
            intro e19
            have h := h e19
            exact jaX11_countJams_90 (k93 := wX11_countJams_93 (wX11_countJams_35 k99 Q n) Q) (k93' := vX11_countJams_93 (vX11_countJams_35 k99' Q' m) Q') (fun _ _ _ _ _ _ _ h => jaX11_countJams_93 (k35 := wX11_countJams_35 k99 Q n) (k35' := vX11_countJams_35 k99' Q' m) (fun _ _ _ _ _ _ _ h => ih m _ _ _ _ _ _ _ h) hQ _ _ _ _ _ _ _ h) hQ _ _ _ _ _ _ _ h
set_option maxRecDepth 100000 in
set_option maxHeartbeats 4000000 in
theorem jfX11_countJams_35 {I : kx_S → Prop} (W : fw_ I []) {k99 : Nat → Int32 → Int32 → Int32 → kx_S → Prop} (hk99 : ∀ y0 y1 y2 y3 y4, I y4 → k99 y0 y1 y2 y3 y4) {Q : Int32 → kx_S → Prop} (hQ : ∀ y0 y1, I y1 → Q y0 y1) : ∀ (n : Nat) (l0 : Nat) (l1 : Int32) (l2 : Int32) (l3 : Int32) (l4 : Nat) (l5 : Int32) (σ : kx_S), I σ → vX11_countJams_35 k99 Q n l0 l1 l2 l3 l4 l5 σ := by
  intro n
  induction n with
  | zero => intro l0 l1 l2 l3 l4 l5 σ i; exact trivial
  | succ n ih =>
    intro l0 l1 l2 l3 l4 l5 σ i
    unfold vX11_countJams_35
    intro e1
    intro a5 e2
    intro e3
    refine jfJx4a65c_size_8abf5 (I := I) (fw_sub W (by decide)) ?_ _ _ i
    intro r8 σ7 iσ7
    refine ⟨?_, ?_⟩
    · intro e4
      exact hk99 _ _ _ _ _ iσ7
    · intro e5
      intro e6
      intro a12 e7
      intro e8
      refine jfJx4a65c_get_915e3 (I := I) (fw_sub W (by decide)) ?_ _ _ _ iσ7
      intro q15 σ14 iσ14
      intro a17 e9
      intro e10
      refine ⟨?_, ?_⟩
      · intro e11
        refine ⟨?_, ?_⟩
        · intro e12
          exact jfX11_countJams_93 (I := I) (fw_sub W (by decide)) (k35 := vX11_countJams_35 k99 Q n) (fun _ _ _ _ _ _ _ i => ih _ _ _ _ _ _ _ i) hQ _ _ _ _ _ _ _ iσ14
        · intro e13
          exact jfX11_countJams_90 (I := I) (fw_sub W (by decide)) (k93 := vX11_countJams_93 (vX11_countJams_35 k99 Q n) Q) (fun _ _ _ _ _ _ _ i => jfX11_countJams_93 (I := I) (fw_sub W (by decide)) (k35 := vX11_countJams_35 k99 Q n) (fun _ _ _ _ _ _ _ i => ih _ _ _ _ _ _ _ i) hQ _ _ _ _ _ _ _ i) hQ _ _ _ _ _ _ _ iσ14
      · intro e14
        refine ⟨?_, ?_⟩
        · intro e15
          exact jfX11_countJams_93 (I := I) (fw_sub W (by decide)) (k35 := vX11_countJams_35 k99 Q n) (fun _ _ _ _ _ _ _ i => ih _ _ _ _ _ _ _ i) hQ _ _ _ _ _ _ _ iσ14
        · intro e16
          exact jfX11_countJams_90 (I := I) (fw_sub W (by decide)) (k93 := vX11_countJams_93 (vX11_countJams_35 k99 Q n) Q) (fun _ _ _ _ _ _ _ i => jfX11_countJams_93 (I := I) (fw_sub W (by decide)) (k35 := vX11_countJams_35 k99 Q n) (fun _ _ _ _ _ _ _ i => ih _ _ _ _ _ _ _ i) hQ _ _ _ _ _ _ _ i) hQ _ _ _ _ _ _ _ iσ14
def vX11_countJams_4 (Q : Int32 → kx_S → Prop) : Nat → Nat → Int32 → Int32 → Int32 → kx_S → Prop
  | 0, _, _, _, _, _ => True
  | n + 1, l0, l1, l2, l3, σ => xt σ l0 = 13 → ∀ a24, xr σ 208 l0 = some a24 → xt σ a24 = 1 → vJx4a65c_size_8abf5 a24 σ (fun r27 σ26 => ((r27 ≤ l3 → Q l2 σ26) ∧ (¬ (r27 ≤ l3) → xt σ26 l0 = 13 → ∀ a31, xr σ26 208 l0 = some a31 → xt σ26 a31 = 1 → vJx4a65c_get_915e3 a31 l3 σ26 (fun q34 σ33 => ∀ a36, q34 = some a36 → xt σ33 a36 = 10 → ∀ j, vX11_countJams_35 (vX11_countJams_99 (vX11_countJams_4 Q n) Q) Q j l0 l1 l2 l3 a36 0 σ33))))
set_option maxRecDepth 100000 in
set_option maxHeartbeats 4000000 in
theorem jcX11_countJams_4 {Q Q' Q'' : Int32 → kx_S → Prop} (hQ : ∀ y0 y1, Q y0 y1 → Q' y0 y1 → Q'' y0 y1) : ∀ (n : Nat) (l0 : Nat) (l1 : Int32) (l2 : Int32) (l3 : Int32) (σ : kx_S), wX11_countJams_4 Q n l0 l1 l2 l3 σ → vX11_countJams_4 Q' n l0 l1 l2 l3 σ → wX11_countJams_4 Q'' n l0 l1 l2 l3 σ := by
  intro n
  induction n with
  | zero => intro l0 l1 l2 l3 σ h; exact h.elim
  | succ n ih =>
    intro l0 l1 l2 l3 σ h v
    unfold wX11_countJams_4 at h
    unfold vX11_countJams_4 at v
    unfold wX11_countJams_4
    refine ⟨h.1, ?_⟩
    have v := v h.1
    have h := h.2
    obtain ⟨a24, e2, h⟩ := h
    refine ⟨a24, e2, ?_⟩
    have v := v a24 e2
    refine ⟨h.1, ?_⟩
    have v := v h.1
    have h := h.2
    refine jcJx4a65c_size_8abf5 ?_ _ _ h v
    intro r27 σ26 h v
    refine ⟨?_, ?_⟩
    · have h := h.1
      have v := v.1
      intro e4
      have h := h e4
      have v := v e4
      exact hQ _ _ h v
    · have h := h.2
      have v := v.2
      intro e5
      have h := h e5
      have v := v e5
      refine ⟨h.1, ?_⟩
      have v := v h.1
      have h := h.2
      obtain ⟨a31, e7, h⟩ := h
      refine ⟨a31, e7, ?_⟩
      have v := v a31 e7
      refine ⟨h.1, ?_⟩
      have v := v h.1
      have h := h.2
      refine jcJx4a65c_get_915e3 ?_ _ _ _ h v
      intro q34 σ33 h v
      obtain ⟨a36, e9, h⟩ := h
      refine ⟨a36, e9, ?_⟩
      have v := v a36 e9
      refine ⟨h.1, ?_⟩
      have v := v h.1
      have h := h.2
      obtain ⟨j, h⟩ := h
      refine ⟨j, ?_⟩
      have v := v j
      exact jcX11_countJams_35 (k99 := wX11_countJams_99 (wX11_countJams_4 Q n) Q) (k99' := vX11_countJams_99 (vX11_countJams_4 Q' n) Q') (k99'' := wX11_countJams_99 (wX11_countJams_4 Q'' n) Q'') (fun _ _ _ _ _ h v => jcX11_countJams_99 (k4 := wX11_countJams_4 Q n) (k4' := vX11_countJams_4 Q' n) (k4'' := wX11_countJams_4 Q'' n) (fun _ _ _ _ _ h v => ih _ _ _ _ _ h v) hQ _ _ _ _ _ h v) hQ _ _ _ _ _ _ _ _ h v
set_option maxRecDepth 100000 in
set_option maxHeartbeats 4000000 in
theorem jaX11_countJams_4 {Q Q' : Int32 → kx_S → Prop} (hQ : ∀ y0 y1, Q y0 y1 → Q' y0 y1) : ∀ (n m : Nat) (l0 : Nat) (l1 : Int32) (l2 : Int32) (l3 : Int32) (σ : kx_S), wX11_countJams_4 Q n l0 l1 l2 l3 σ → vX11_countJams_4 Q' m l0 l1 l2 l3 σ := by
  intro n
  induction n with
  | zero => intro m l0 l1 l2 l3 σ h; exact h.elim
  | succ n ih =>
    intro m l0 l1 l2 l3 σ h
    cases m with
    | zero => exact trivial
    | succ m =>
      unfold wX11_countJams_4 at h
      unfold vX11_countJams_4
      intro e1
      have h := h.2
      obtain ⟨a24', e2, h⟩ := h
      intro a24 e3
      have x9 : a24' = a24 := Option.some.inj (e2.symm.trans e3)
      rw [x9] at h
      intro e4
      have h := h.2
      refine jaJx4a65c_size_8abf5 ?_ _ _ h
      intro r27 σ26 h
      refine ⟨?_, ?_⟩
      · have h := h.1
        intro e5
        have h := h e5
        exact hQ _ _ h
      · have h := h.2
        intro e6
        have h := h e6
        intro e7
        have h := h.2
        obtain ⟨a31', e8, h⟩ := h
        intro a31 e9
        have x9 : a31' = a31 := Option.some.inj (e8.symm.trans e9)
        rw [x9] at h
        intro e10
        have h := h.2
        refine jaJx4a65c_get_915e3 ?_ _ _ _ h
        intro q34 σ33 h
        obtain ⟨a36', e11, h⟩ := h
        intro a36 e12
        have x9 : a36' = a36 := Option.some.inj (e11.symm.trans e12)
        rw [x9] at h
        intro e13
        have h := h.2
        obtain ⟨j, h⟩ := h
        intro j9
        exact jaX11_countJams_35 (k99 := wX11_countJams_99 (wX11_countJams_4 Q n) Q) (k99' := vX11_countJams_99 (vX11_countJams_4 Q' m) Q') (fun _ _ _ _ _ h => jaX11_countJams_99 (k4 := wX11_countJams_4 Q n) (k4' := vX11_countJams_4 Q' m) (fun _ _ _ _ _ h => ih m _ _ _ _ _ h) hQ _ _ _ _ _ h) hQ _ j9 _ _ _ _ _ _ _ h
set_option maxRecDepth 100000 in
set_option maxHeartbeats 4000000 in
theorem jfX11_countJams_4 {I : kx_S → Prop} (W : fw_ I []) {Q : Int32 → kx_S → Prop} (hQ : ∀ y0 y1, I y1 → Q y0 y1) : ∀ (n : Nat) (l0 : Nat) (l1 : Int32) (l2 : Int32) (l3 : Int32) (σ : kx_S), I σ → vX11_countJams_4 Q n l0 l1 l2 l3 σ := by
  intro n
  induction n with
  | zero => intro l0 l1 l2 l3 σ i; exact trivial
  | succ n ih =>
    intro l0 l1 l2 l3 σ i
    unfold vX11_countJams_4
    intro e1
    intro a24 e2
    intro e3
    refine jfJx4a65c_size_8abf5 (I := I) (fw_sub W (by decide)) ?_ _ _ i
    intro r27 σ26 iσ26
    refine ⟨?_, ?_⟩
    · intro e4
      exact hQ _ _ iσ26
    · intro e5
      intro e6
      intro a31 e7
      intro e8
      refine jfJx4a65c_get_915e3 (I := I) (fw_sub W (by decide)) ?_ _ _ _ iσ26
      intro q34 σ33 iσ33
      intro a36 e9
      intro e10
      intro j
      exact jfX11_countJams_35 (I := I) (fw_sub W (by decide)) (k99 := vX11_countJams_99 (vX11_countJams_4 Q n) Q) (fun _ _ _ _ _ i => jfX11_countJams_99 (I := I) (fw_sub W (by decide)) (k4 := vX11_countJams_4 Q n) (fun _ _ _ _ _ i => ih _ _ _ _ _ i) hQ _ _ _ _ _ i) hQ _ _ _ _ _ _ _ _ iσ33
def vX11_countJams (l0 : Nat) (l1 : Int32) (σ : kx_S) (Q : Int32 → kx_S → Prop) : Prop := ∀ j, vX11_countJams_4 Q j l0 l1 0 0 σ
set_option maxRecDepth 100000 in
set_option maxHeartbeats 4000000 in
theorem jcX11_countJams {Q Q' Q'' : Int32 → kx_S → Prop} (hQ : ∀ y0 y1, Q y0 y1 → Q' y0 y1 → Q'' y0 y1) : ∀ (l0 : Nat) (l1 : Int32) (σ : kx_S), wX11_countJams l0 l1 σ Q → vX11_countJams l0 l1 σ Q' → wX11_countJams l0 l1 σ Q'' := by
  intro l0 l1 σ h v
  unfold wX11_countJams at h
  unfold vX11_countJams at v
  unfold wX11_countJams
  obtain ⟨j, h⟩ := h
  refine ⟨j, ?_⟩
  have v := v j
  exact jcX11_countJams_4 hQ _ _ _ _ _ _ h v
set_option maxRecDepth 100000 in
set_option maxHeartbeats 4000000 in
theorem jaX11_countJams {Q Q' : Int32 → kx_S → Prop} (hQ : ∀ y0 y1, Q y0 y1 → Q' y0 y1) : ∀ (l0 : Nat) (l1 : Int32) (σ : kx_S), wX11_countJams l0 l1 σ Q → vX11_countJams l0 l1 σ Q' := by
  intro l0 l1 σ h
  unfold wX11_countJams at h
  unfold vX11_countJams
  obtain ⟨j, h⟩ := h
  intro j9
  exact jaX11_countJams_4 hQ _ j9 _ _ _ _ _ h
set_option maxRecDepth 100000 in
set_option maxHeartbeats 4000000 in
theorem jfX11_countJams {I : kx_S → Prop} (W : fw_ I []) {Q : Int32 → kx_S → Prop} (hQ : ∀ y0 y1, I y1 → Q y0 y1) : ∀ (l0 : Nat) (l1 : Int32) (σ : kx_S), I σ → vX11_countJams l0 l1 σ Q := by
  intro l0 l1 σ i
  unfold vX11_countJams
  intro j
  exact jfX11_countJams_4 (I := I) (fw_sub W (by decide)) hQ _ _ _ _ _ _ i
def vX11_count (l0 : Nat) (l1 : Int32) (σ : kx_S) (Q : Int32 → kx_S → Prop) (QX : String → kx_S → Prop) : Prop := ∀ v1, v1 = l1 → ((v1 = 0 → xt σ l0 = 13 → Q (xi σ 217 l0) σ) ∧ ((v1 = 1 → xt σ l0 = 13 → ∀ a6, xr σ 208 l0 = some a6 → xt σ a6 = 1 → vJx4a65c_size_8abf5 a6 σ (fun r9 σ8 => Q r9 σ8)) ∧ ((v1 = 2 → xt σ l0 = 13 → ∀ a13, xr σ 209 l0 = some a13 → xt σ a13 = 1 → vJx4a65c_size_8abf5 a13 σ (fun r16 σ15 => Q r16 σ15)) ∧ ((v1 = 3 → xt σ l0 = 13 → ∀ a20, xr σ 210 l0 = some a20 → xt σ a20 = 1 → vJx4a65c_size_8abf5 a20 σ (fun r23 σ22 => Q r23 σ22)) ∧ ((v1 = 4 → xt σ l0 = 13 → Q (xi σ 218 l0) σ) ∧ ((v1 = 5 → xt σ l0 = 13 → ∀ a29, xr σ 211 l0 = some a29 → xt σ a29 = 1 → vJx4a65c_size_8abf5 a29 σ (fun r32 σ31 => Q r32 σ31)) ∧ ((v1 = 6 → xt σ l0 = 13 → vX11_countJams l0 0 σ (fun r36 σ35 => Q r36 σ35)) ∧ ((v1 = 7 → xt σ l0 = 13 → vX11_countJams l0 1 σ (fun r40 σ39 => Q r40 σ39)) ∧ ((v1 = 8 → xt σ l0 = 13 → ∀ a44, xr σ 212 l0 = some a44 → xt σ a44 = 1 → vJx4a65c_size_8abf5 a44 σ (fun r47 σ46 => Q r47 σ46)) ∧ ((v1 = 9 → xt σ l0 = 13 → ∀ a51, xr σ 213 l0 = some a51 → xt σ a51 = 11 → Q (xi σ 177 a51) σ) ∧ (¬ v1 = 0 → ¬ v1 = 1 → ¬ v1 = 2 → ¬ v1 = 3 → ¬ v1 = 4 → ¬ v1 = 5 → ¬ v1 = 6 → ¬ v1 = 7 → ¬ v1 = 8 → ¬ v1 = 9 → xc σ < kx_N → QX pz_N (xbump σ))))))))))))
set_option maxRecDepth 100000 in
set_option maxHeartbeats 4000000 in
theorem jcX11_count {Q Q' Q'' : Int32 → kx_S → Prop} (hQ : ∀ y0 y1, Q y0 y1 → Q' y0 y1 → Q'' y0 y1) {QX QX' QX'' : String → kx_S → Prop} (hX : ∀ y0 y1, QX y0 y1 → QX' y0 y1 → QX'' y0 y1) : ∀ (l0 : Nat) (l1 : Int32) (σ : kx_S), wX11_count l0 l1 σ Q QX → vX11_count l0 l1 σ Q' QX' → wX11_count l0 l1 σ Q'' QX'' := by
  intro l0 l1 σ h v
  unfold wX11_count at h
  unfold vX11_count at v
  unfold wX11_count
  intro v1 e1
  have h := h v1 e1
  have v := v v1 e1
  refine ⟨?_, ?_⟩
  · have h := h.1
    have v := v.1
    intro e2
    have h := h e2
    have v := v e2
    refine ⟨h.1, ?_⟩
    have v := v h.1
    have h := h.2
    exact hQ _ _ h v
  · have h := h.2
    have v := v.2
    refine ⟨?_, ?_⟩
    · have h := h.1
      have v := v.1
      intro e4
      have h := h e4
      have v := v e4
      refine ⟨h.1, ?_⟩
      have v := v h.1
      have h := h.2
      obtain ⟨a6, e6, h⟩ := h
      refine ⟨a6, e6, ?_⟩
      have v := v a6 e6
      refine ⟨h.1, ?_⟩
      have v := v h.1
      have h := h.2
      refine jcJx4a65c_size_8abf5 ?_ _ _ h v
      intro r9 σ8 h v
      exact hQ _ _ h v
    · have h := h.2
      have v := v.2
      refine ⟨?_, ?_⟩
      · have h := h.1
        have v := v.1
        intro e8
        have h := h e8
        have v := v e8
        refine ⟨h.1, ?_⟩
        have v := v h.1
        have h := h.2
        obtain ⟨a13, e10, h⟩ := h
        refine ⟨a13, e10, ?_⟩
        have v := v a13 e10
        refine ⟨h.1, ?_⟩
        have v := v h.1
        have h := h.2
        refine jcJx4a65c_size_8abf5 ?_ _ _ h v
        intro r16 σ15 h v
        exact hQ _ _ h v
      · have h := h.2
        have v := v.2
        refine ⟨?_, ?_⟩
        · have h := h.1
          have v := v.1
          intro e12
          have h := h e12
          have v := v e12
          refine ⟨h.1, ?_⟩
          have v := v h.1
          have h := h.2
          obtain ⟨a20, e14, h⟩ := h
          refine ⟨a20, e14, ?_⟩
          have v := v a20 e14
          refine ⟨h.1, ?_⟩
          have v := v h.1
          have h := h.2
          refine jcJx4a65c_size_8abf5 ?_ _ _ h v
          intro r23 σ22 h v
          exact hQ _ _ h v
        · have h := h.2
          have v := v.2
          refine ⟨?_, ?_⟩
          · have h := h.1
            have v := v.1
            intro e16
            have h := h e16
            have v := v e16
            refine ⟨h.1, ?_⟩
            have v := v h.1
            have h := h.2
            exact hQ _ _ h v
          · have h := h.2
            have v := v.2
            refine ⟨?_, ?_⟩
            · have h := h.1
              have v := v.1
              intro e18
              have h := h e18
              have v := v e18
              refine ⟨h.1, ?_⟩
              have v := v h.1
              have h := h.2
              obtain ⟨a29, e20, h⟩ := h
              refine ⟨a29, e20, ?_⟩
              have v := v a29 e20
              refine ⟨h.1, ?_⟩
              have v := v h.1
              have h := h.2
              refine jcJx4a65c_size_8abf5 ?_ _ _ h v
              intro r32 σ31 h v
              exact hQ _ _ h v
            · have h := h.2
              have v := v.2
              refine ⟨?_, ?_⟩
              · have h := h.1
                have v := v.1
                intro e22
                have h := h e22
                have v := v e22
                refine ⟨h.1, ?_⟩
                have v := v h.1
                have h := h.2
                refine jcX11_countJams ?_ _ _ _ h v
                intro r36 σ35 h v
                exact hQ _ _ h v
              · have h := h.2
                have v := v.2
                refine ⟨?_, ?_⟩
                · have h := h.1
                  have v := v.1
                  intro e24
                  have h := h e24
                  have v := v e24
                  refine ⟨h.1, ?_⟩
                  have v := v h.1
                  have h := h.2
                  refine jcX11_countJams ?_ _ _ _ h v
                  intro r40 σ39 h v
                  exact hQ _ _ h v
                · have h := h.2
                  have v := v.2
                  refine ⟨?_, ?_⟩
                  · have h := h.1
                    have v := v.1
                    intro e26
                    have h := h e26
                    have v := v e26
                    refine ⟨h.1, ?_⟩
                    have v := v h.1
                    have h := h.2
                    obtain ⟨a44, e28, h⟩ := h
                    refine ⟨a44, e28, ?_⟩
                    have v := v a44 e28
                    refine ⟨h.1, ?_⟩
                    have v := v h.1
                    have h := h.2
                    refine jcJx4a65c_size_8abf5 ?_ _ _ h v
                    intro r47 σ46 h v
                    exact hQ _ _ h v
                  · have h := h.2
                    have v := v.2
                    refine ⟨?_, ?_⟩
                    · have h := h.1
                      have v := v.1
                      intro e30
                      have h := h e30
                      have v := v e30
                      refine ⟨h.1, ?_⟩
                      have v := v h.1
                      have h := h.2
                      obtain ⟨a51, e32, h⟩ := h
                      refine ⟨a51, e32, ?_⟩
                      have v := v a51 e32
                      refine ⟨h.1, ?_⟩
                      have v := v h.1
                      have h := h.2
                      exact hQ _ _ h v
                    · have h := h.2
                      have v := v.2
                      intro e34 e35 e36 e37 e38 e39 e40 e41 e42 e43
                      have h := h e34 e35 e36 e37 e38 e39 e40 e41 e42 e43
                      have v := v e34 e35 e36 e37 e38 e39 e40 e41 e42 e43
                      refine ⟨h.1, ?_⟩
                      have v := v h.1
                      have h := h.2
                      exact hX _ _ h v
set_option maxRecDepth 100000 in
set_option maxHeartbeats 4000000 in
theorem jaX11_count {Q Q' : Int32 → kx_S → Prop} (hQ : ∀ y0 y1, Q y0 y1 → Q' y0 y1) {QX QX' : String → kx_S → Prop} (hX : ∀ y0 y1, QX y0 y1 → QX' y0 y1) : ∀ (l0 : Nat) (l1 : Int32) (σ : kx_S), wX11_count l0 l1 σ Q QX → vX11_count l0 l1 σ Q' QX' := by
  intro l0 l1 σ h
  unfold wX11_count at h
  unfold vX11_count
  intro v1 e1
  have h := h v1 e1
  refine ⟨?_, ?_⟩
  · have h := h.1
    intro e2
    have h := h e2
    intro e3
    have h := h.2
    exact hQ _ _ h
  · have h := h.2
    refine ⟨?_, ?_⟩
    · have h := h.1
      intro e4
      have h := h e4
      intro e5
      have h := h.2
      obtain ⟨a6', e6, h⟩ := h
      intro a6 e7
      have x9 : a6' = a6 := Option.some.inj (e6.symm.trans e7)
      rw [x9] at h
      intro e8
      have h := h.2
      refine jaJx4a65c_size_8abf5 ?_ _ _ h
      intro r9 σ8 h
      exact hQ _ _ h
    · have h := h.2
      refine ⟨?_, ?_⟩
      · have h := h.1
        intro e9
        have h := h e9
        intro e10
        have h := h.2
        obtain ⟨a13', e11, h⟩ := h
        intro a13 e12
        have x9 : a13' = a13 := Option.some.inj (e11.symm.trans e12)
        rw [x9] at h
        intro e13
        have h := h.2
        refine jaJx4a65c_size_8abf5 ?_ _ _ h
        intro r16 σ15 h
        exact hQ _ _ h
      · have h := h.2
        refine ⟨?_, ?_⟩
        · have h := h.1
          intro e14
          have h := h e14
          intro e15
          have h := h.2
          obtain ⟨a20', e16, h⟩ := h
          intro a20 e17
          have x9 : a20' = a20 := Option.some.inj (e16.symm.trans e17)
          rw [x9] at h
          intro e18
          have h := h.2
          refine jaJx4a65c_size_8abf5 ?_ _ _ h
          intro r23 σ22 h
          exact hQ _ _ h
        · have h := h.2
          refine ⟨?_, ?_⟩
          · have h := h.1
            intro e19
            have h := h e19
            intro e20
            have h := h.2
            exact hQ _ _ h
          · have h := h.2
            refine ⟨?_, ?_⟩
            · have h := h.1
              intro e21
              have h := h e21
              intro e22
              have h := h.2
              obtain ⟨a29', e23, h⟩ := h
              intro a29 e24
              have x9 : a29' = a29 := Option.some.inj (e23.symm.trans e24)
              rw [x9] at h
              intro e25
              have h := h.2
              refine jaJx4a65c_size_8abf5 ?_ _ _ h
              intro r32 σ31 h
              exact hQ _ _ h
            · have h := h.2
              refine ⟨?_, ?_⟩
              · have h := h.1
                intro e26
                have h := h e26
                intro e27
                have h := h.2
                refine jaX11_countJams ?_ _ _ _ h
                intro r36 σ35 h
                exact hQ _ _ h
              · have h := h.2
                refine ⟨?_, ?_⟩
                · have h := h.1
                  intro e28
                  have h := h e28
                  intro e29
                  have h := h.2
                  refine jaX11_countJams ?_ _ _ _ h
                  intro r40 σ39 h
                  exact hQ _ _ h
                · have h := h.2
                  refine ⟨?_, ?_⟩
                  · have h := h.1
                    intro e30
                    have h := h e30
                    intro e31
                    have h := h.2
                    obtain ⟨a44', e32, h⟩ := h
                    intro a44 e33
                    have x9 : a44' = a44 := Option.some.inj (e32.symm.trans e33)
                    rw [x9] at h
                    intro e34
                    have h := h.2
                    refine jaJx4a65c_size_8abf5 ?_ _ _ h
                    intro r47 σ46 h
                    exact hQ _ _ h
                  · have h := h.2
                    refine ⟨?_, ?_⟩
                    · have h := h.1
                      intro e35
                      have h := h e35
                      intro e36
                      have h := h.2
                      obtain ⟨a51', e37, h⟩ := h
                      intro a51 e38
                      have x9 : a51' = a51 := Option.some.inj (e37.symm.trans e38)
                      rw [x9] at h
                      intro e39
                      have h := h.2
                      exact hQ _ _ h
                    · have h := h.2
                      intro e40 e41 e42 e43 e44 e45 e46 e47 e48 e49
                      have h := h e40 e41 e42 e43 e44 e45 e46 e47 e48 e49
                      intro e50
                      have h := h.2
                      exact hX _ _ h
set_option maxRecDepth 100000 in
set_option maxHeartbeats 4000000 in
theorem jfX11_count {I : kx_S → Prop} (W : fw_ I [1005]) {Q : Int32 → kx_S → Prop} (hQ : ∀ y0 y1, I y1 → Q y0 y1) {QX : String → kx_S → Prop} (hX : ∀ y0 y1, I y1 → QX y0 y1) : ∀ (l0 : Nat) (l1 : Int32) (σ : kx_S), I σ → vX11_count l0 l1 σ Q QX := by
  intro l0 l1 σ i
  unfold vX11_count
  intro v1 e1
  refine ⟨?_, ?_⟩
  · intro e2
    intro e3
    exact hQ _ _ i
  · refine ⟨?_, ?_⟩
    · intro e4
      intro e5
      intro a6 e6
      intro e7
      refine jfJx4a65c_size_8abf5 (I := I) (fw_sub W (by decide)) ?_ _ _ i
      intro r9 σ8 iσ8
      exact hQ _ _ iσ8
    · refine ⟨?_, ?_⟩
      · intro e8
        intro e9
        intro a13 e10
        intro e11
        refine jfJx4a65c_size_8abf5 (I := I) (fw_sub W (by decide)) ?_ _ _ i
        intro r16 σ15 iσ15
        exact hQ _ _ iσ15
      · refine ⟨?_, ?_⟩
        · intro e12
          intro e13
          intro a20 e14
          intro e15
          refine jfJx4a65c_size_8abf5 (I := I) (fw_sub W (by decide)) ?_ _ _ i
          intro r23 σ22 iσ22
          exact hQ _ _ iσ22
        · refine ⟨?_, ?_⟩
          · intro e16
            intro e17
            exact hQ _ _ i
          · refine ⟨?_, ?_⟩
            · intro e18
              intro e19
              intro a29 e20
              intro e21
              refine jfJx4a65c_size_8abf5 (I := I) (fw_sub W (by decide)) ?_ _ _ i
              intro r32 σ31 iσ31
              exact hQ _ _ iσ31
            · refine ⟨?_, ?_⟩
              · intro e22
                intro e23
                refine jfX11_countJams (I := I) (fw_sub W (by decide)) ?_ _ _ _ i
                intro r36 σ35 iσ35
                exact hQ _ _ iσ35
              · refine ⟨?_, ?_⟩
                · intro e24
                  intro e25
                  refine jfX11_countJams (I := I) (fw_sub W (by decide)) ?_ _ _ _ i
                  intro r40 σ39 iσ39
                  exact hQ _ _ iσ39
                · refine ⟨?_, ?_⟩
                  · intro e26
                    intro e27
                    intro a44 e28
                    intro e29
                    refine jfJx4a65c_size_8abf5 (I := I) (fw_sub W (by decide)) ?_ _ _ i
                    intro r47 σ46 iσ46
                    exact hQ _ _ iσ46
                  · refine ⟨?_, ?_⟩
                    · intro e30
                      intro e31
                      intro a51 e32
                      intro e33
                      exact hQ _ _ i
                    · intro e34 e35 e36 e37 e38 e39 e40 e41 e42 e43
                      intro e44
                      exact hX _ _ ((W _ i).2.2.2.2.2.1 (by decide))
end
section
/-! water: what an hour does to it -/
/-- next, room, store, flow, out, melted, to the sea -/
abbrev wt_T : Type := (Nat → Int32) × (Nat → Int32) × (Nat → Int32) × (Nat → Int32) × (Nat → Int32) × Int64 × Int64
/-- flow (what came in), out, store, to the sea -/
abbrev wx_T : Type := (Nat → Int32) × (Nat → Int32) × (Nat → Int32) × Int64
def w_max (x : Int32) : Int32 := if x < 0 then 0 else x
def w_min (g x : Int32) : Int32 := if x < g then x else g
theorem w_max0 (x : Int32) : (if 0 < x then x else 0) = w_max x := by
  unfold w_max
  have z : (0 : Int32).toInt = 0 := by decide
  by_cases h : x < 0
  · rw [if_pos h, if_neg (by rw [ki_lt] at *; omega)]
  · rw [if_neg h]
    by_cases k : 0 < x
    · rw [if_pos k]
    · rw [if_neg k, ki_eq]
      rw [ki_lt] at *
      omega
def w_out (d rm gt i st : Int32) : Int32 := if d = 0 then i else w_max (st + i - rm) + w_min gt (st + i - w_max (st + i - rm))
def w_step (nx dm rm gt : Nat → Int32) (r : Nat) (x : wx_T) : wx_T :=
  (if nx r = -1 then x.1 else upd x.1 (nx r).toNatClampNeg (x.1 (nx r).toNatClampNeg + w_out (dm r) (rm r) (gt r) (x.1 r) (x.2.2.1 r)),
   upd x.2.1 r (w_out (dm r) (rm r) (gt r) (x.1 r) (x.2.2.1 r)),
   if dm r = 0 then x.2.2.1 else upd x.2.2.1 r (x.2.2.1 r + x.1 r - w_out (dm r) (rm r) (gt r) (x.1 r) (x.2.2.1 r)),
   if nx r = -1 then x.2.2.2 + (w_out (dm r) (rm r) (gt r) (x.1 r) (x.2.2.1 r)).toInt64 else x.2.2.2)
def w_run (nx dm rm gt : Nat → Int32) : Nat → wx_T → wx_T
  | 0, x => x
  | k + 1, x => w_run nx dm rm gt k (w_step nx dm rm gt k x)
def w_sum (ml : Nat → Int32) : Nat → Int64
  | 0 => 0
  | k + 1 => w_sum ml k + (ml k).toInt64
def w_from (n : Nat) (ml : Nat → Int32) (w : wt_T) : wx_T := (fun r => if r < n then ml r else w.2.2.2.1 r, w.2.2.2.2.1, w.2.2.1, w.2.2.2.2.2.2)
def w_to (n : Nat) (ml : Nat → Int32) (w : wt_T) (x : wx_T) : wt_T := (w.1, w.2.1, x.2.2.1, x.1, x.2.1, w.2.2.2.2.2.1 + w_sum ml n, x.2.2.2)
def w_hour (n : Nat) (dm gt ml : Nat → Int32) (w : wt_T) : wt_T := w_to n ml w (w_run w.1 dm w.2.1 gt n (w_from n ml w))
def w_hours (n : Nat) (dm gt ml : Nat → Int32) : Nat → wt_T → wt_T
  | 0, w => w
  | k + 1, w => w_hours n dm gt ml k (w_hour n dm gt ml w)
/-- a reach flows into one of a lesser number, and what isn't there is empty -/
def w_ok (n : Nat) (w : wt_T) : Prop := (∀ r, r < n → -1 ≤ (w.1 r).toInt ∧ (w.1 r).toInt < (r : Int)) ∧ ∀ r, n ≤ r → w.2.1 r = 0 ∧ w.2.2.1 r = 0 ∧ w.2.2.2.1 r = 0 ∧ w.2.2.2.2.1 r = 0
theorem w_run_hi {nx dm rm gt : Nat → Int32} : ∀ (k : Nat) (x : wx_T), (∀ r, r < k → -1 ≤ (nx r).toInt ∧ (nx r).toInt < (r : Int)) → ∀ r, k ≤ r → (w_run nx dm rm gt k x).1 r = x.1 r ∧ (w_run nx dm rm gt k x).2.1 r = x.2.1 r ∧ (w_run nx dm rm gt k x).2.2.1 r = x.2.2.1 r := by
  intro k
  induction k with
  | zero => intro x _ r _; exact ⟨rfl, rfl, rfl⟩
  | succ k ih =>
    intro x h r hr
    have hk := h k (by omega)
    obtain ⟨i1, i2, i3⟩ := ih (w_step nx dm rm gt k x) (fun r hr => h r (by omega)) r (by omega)
    show (w_run nx dm rm gt k (w_step nx dm rm gt k x)).1 r = _ ∧ (w_run nx dm rm gt k (w_step nx dm rm gt k x)).2.1 r = _ ∧ (w_run nx dm rm gt k (w_step nx dm rm gt k x)).2.2.1 r = _
    rw [i1, i2, i3]
    refine ⟨?_, ?_, ?_⟩
    · show (if nx k = -1 then x.1 else upd x.1 (nx k).toNatClampNeg _) r = _
      by_cases c : nx k = -1
      · rw [if_pos c]
      · rw [if_neg c]
        refine if_neg ?_
        rw [ki_nat]
        omega
    · exact if_neg (by omega)
    · show (if dm k = 0 then x.2.2.1 else upd x.2.2.1 k _) r = _
      by_cases c : dm k = 0
      · rw [if_pos c]
      · rw [if_neg c]
        exact if_neg (by omega)
theorem w_hour_ok {n : Nat} {dm gt ml : Nat → Int32} {w : wt_T} (h : w_ok n w) : w_ok n (w_hour n dm gt ml w) := by
  refine ⟨h.1, fun r hr => ?_⟩
  obtain ⟨i1, i2, i3⟩ := w_run_hi (dm := dm) (rm := w.2.1) (gt := gt) n (w_from n ml w) h.1 r hr
  obtain ⟨a, b, c, d⟩ := h.2 r hr
  refine ⟨a, i3.trans b, i1.trans ?_, i2.trans d⟩
  exact (if_neg (by omega)).trans c
theorem w_hours_ok {n : Nat} {dm gt ml : Nat → Int32} : ∀ (k : Nat) (w : wt_T), w_ok n w → w_ok n (w_hours n dm gt ml k w) := by
  intro k
  induction k with
  | zero => intro w h; exact h
  | succ k ih => intro w h; exact ih _ (w_hour_ok h)
theorem w_hours_snoc {n : Nat} {dm gt ml : Nat → Int32} : ∀ (k : Nat) (w : wt_T), w_hours n dm gt ml (k + 1) w = w_hour n dm gt ml (w_hours n dm gt ml k w) := by
  intro k
  induction k with
  | zero => intro w; rfl
  | succ k ih => intro w; exact ih (w_hour n dm gt ml w)
end
section
/-! the reference's water -/
theorem w_updS {f : Nat → Int32} {i : Nat} {a : Int32} : upd f i a i = a := if_pos rfl
theorem w_updN {f : Nat → Int32} {i j : Nat} {a : Int32} (h : j ≠ i) : upd f i a j = f j := if_neg h
theorem w_upd2 {f : Nat → Int32} {i : Nat} {a b : Int32} : upd (upd f i a) i b = upd f i b := by
  funext j
  by_cases h : j = i
  · rw [h, w_updS, w_updS]
  · rw [w_updN h, w_updN h, w_updN h]
def wm_ (μ : km_S) : wt_T := (km_a μ 13, km_a μ 24, km_a μ 25, km_a μ 18, km_a μ 19, km_l μ 11, km_l μ 12)
abbrev wr_X (k : Nat) (μ : km_S) : wx_T := w_run (km_a μ 13) (km_a μ 21) (km_a μ 24) (km_a μ 26) k (km_a μ 20, km_a μ 19, km_a μ 25, km_l μ 12)
def wl_ (k : Nat) (μ u : km_S) : Prop := km_a u 13 = km_a μ 13 ∧ km_a u 24 = km_a μ 24 ∧ km_a u 19 = (wr_X k μ).2.1 ∧ km_a u 25 = (wr_X k μ).2.2.1 ∧ km_l u 12 = (wr_X k μ).2.2.2 ∧ km_l u 11 = km_l μ 11 + w_sum (km_a μ 17) k ∧ km_a u 18 = fun r => if r < k then (wr_X k μ).1 r else km_a μ 18 r
theorem wl_zero (μ : km_S) : wl_ 0 μ μ := by
  refine ⟨rfl, rfl, rfl, rfl, rfl, ?_, ?_⟩
  · show km_l μ 11 = km_l μ 11 + 0
    rw [Int64.add_zero]
  · funext r
    exact (if_neg (Nat.not_lt_zero r)).symm
theorem wl_step {k : Nat} {μ μ' u : km_S} (hn : ∀ r, r < k + 1 → -1 ≤ (km_a μ 13 r).toInt ∧ (km_a μ 13 r).toInt < (r : Int)) (e13 : km_a μ' 13 = km_a μ 13) (e17 : km_a μ' 17 = km_a μ 17) (e21 : km_a μ' 21 = km_a μ 21) (e24 : km_a μ' 24 = km_a μ 24) (e26 : km_a μ' 26 = km_a μ 26)
    (ex : (km_a μ' 20, km_a μ' 19, km_a μ' 25, km_l μ' 12) = w_step (km_a μ 13) (km_a μ 21) (km_a μ 24) (km_a μ 26) k (km_a μ 20, km_a μ 19, km_a μ 25, km_l μ 12)) (e11 : km_l μ' 11 = km_l μ 11 + (km_a μ 17 k).toInt64) (e18 : km_a μ' 18 = upd (km_a μ 18) k (km_a μ 20 k)) (h : wl_ k μ' u) : wl_ (k + 1) μ u := by
  obtain ⟨a13, a24, a19, a25, a12, a11, a18⟩ := h
  have eX : wr_X k μ' = wr_X (k + 1) μ := by
    show w_run (km_a μ' 13) (km_a μ' 21) (km_a μ' 24) (km_a μ' 26) k (km_a μ' 20, km_a μ' 19, km_a μ' 25, km_l μ' 12) = w_run (km_a μ 13) (km_a μ 21) (km_a μ 24) (km_a μ 26) k (w_step (km_a μ 13) (km_a μ 21) (km_a μ 24) (km_a μ 26) k (km_a μ 20, km_a μ 19, km_a μ 25, km_l μ 12))
    rw [ex, e13, e21, e24, e26]
  have hk := hn k (by omega)
  have e20 : km_a μ' 20 k = km_a μ 20 k := by
    have := congrArg (fun q : wx_T => q.1 k) ex
    refine this.trans ?_
    show (if km_a μ 13 k = -1 then km_a μ 20 else upd (km_a μ 20) (km_a μ 13 k).toNatClampNeg _) k = _
    by_cases c : km_a μ 13 k = -1
    · rw [if_pos c]
    · rw [if_neg c]
      have c2 : (km_a μ 13 k).toInt ≠ -1 := fun h => c (ki_eq.2 (h.trans (by decide)))
      exact w_updN (by rw [ki_nat]; omega)
  refine ⟨a13.trans e13, a24.trans e24, by rw [a19, eX], by rw [a25, eX], by rw [a12, eX], ?_, ?_⟩
  · rw [a11, e11, e17]
    show km_l μ 11 + (km_a μ 17 k).toInt64 + w_sum (km_a μ 17) k = km_l μ 11 + (w_sum (km_a μ 17) k + (km_a μ 17 k).toInt64)
    rw [Int64.add_assoc, Int64.add_comm (km_a μ 17 k).toInt64]
  · rw [a18, ← eX]
    funext r
    show (if r < k then (wr_X k μ').1 r else km_a μ' 18 r) = (if r < k + 1 then (wr_X k μ').1 r else km_a μ 18 r)
    by_cases c : r < k
    · rw [if_pos c, if_pos (by omega)]
    · rw [if_neg c, e18]
      by_cases d : r = k
      · rw [if_pos (by omega), d, w_updS, ← e20]
        refine ((w_run_hi (dm := km_a μ' 21) (rm := km_a μ' 24) (gt := km_a μ' 26) k (km_a μ' 20, km_a μ' 19, km_a μ' 25, km_l μ' 12) (fun q hq => ?_) k (Nat.le_refl k)).1).symm
        rw [e13]
        exact hn q (by omega)
      · rw [if_neg (by omega), w_updN d]
theorem vm_w166 {Q : km_S → Prop} {k35 : Int32 → km_S → Prop} {l1 : Int32} {k : Nat} {μ μ' : km_S} (ek : l1.toNatClampNeg = k) (hl : l1.toInt = (k : Int)) (hn : ∀ r, r < k + 1 → -1 ≤ (km_a μ 13 r).toInt ∧ (km_a μ 13 r).toInt < (r : Int)) (e13 : km_a μ' 13 = km_a μ 13) (e17 : km_a μ' 17 = km_a μ 17) (e21 : km_a μ' 21 = km_a μ 21) (e24 : km_a μ' 24 = km_a μ 24) (e26 : km_a μ' 26 = km_a μ 26) (e20 : km_a μ' 20 = km_a μ 20)
    (e19 : km_a μ' 19 = upd (km_a μ 19) k (w_out (km_a μ 21 k) (km_a μ 24 k) (km_a μ 26 k) (km_a μ 20 k) (km_a μ 25 k))) (e25 : km_a μ' 25 = if km_a μ 21 k = 0 then km_a μ 25 else upd (km_a μ 25) k (km_a μ 25 k + km_a μ 20 k - w_out (km_a μ 21 k) (km_a μ 24 k) (km_a μ 26 k) (km_a μ 20 k) (km_a μ 25 k))) (e12 : km_l μ' 12 = km_l μ 12) (e11 : km_l μ' 11 = km_l μ 11 + (km_a μ 17 k).toInt64) (e18 : km_a μ' 18 = upd (km_a μ 18) k (km_a μ 20 k))
    (ih : ∀ (v : Int32) (μ2 : km_S), v.toInt = (k : Int) - 1 → (∀ r, r < k → -1 ≤ (km_a μ2 13 r).toInt ∧ (km_a μ2 13 r).toInt < (r : Int)) → (∀ u, wl_ k μ2 u → Q u) → k35 v μ2) (kk : ∀ u, wl_ (k + 1) μ u → Q u) : vX12_waterGoes_166 k35 Q l1 μ' := by
  unfold vX12_waterGoes_166
  have ev : ∀ v : Int32, v = l1 + (-1) → v.toInt = (k : Int) - 1 := by
    intro v e
    have m1 : (-1 : Int32).toInt = -1 := by decide
    have h1 := ki_hi l1
    rw [e, ki_add (by rw [m1]; omega) (by rw [m1]; omega), hl, m1]
    omega
  have o19 : km_a μ' 19 k = w_out (km_a μ 21 k) (km_a μ 24 k) (km_a μ 26 k) (km_a μ 20 k) (km_a μ 25 k) := by rw [e19, w_updS]
  rw [ek, e13]
  intro _
  refine ⟨fun c _ _ _ _ μ2 e2 => ?_, fun c _ μ2 e2 => ?_⟩
  · unfold vX12_waterGoes_215
    intro v e
    subst e2
    refine ih v _ (ev v e) (fun r hr => ?_) (fun u hu => kk u (wl_step (μ' := km_sa μ' 20 (km_a μ 13 k).toNatClampNeg (km_a μ' 20 (km_a μ 13 k).toNatClampNeg + km_a μ' 19 k)) hn e13 e17 e21 e24 e26 ?_ e11 e18 hu))
    · show -1 ≤ (km_a μ' 13 r).toInt ∧ (km_a μ' 13 r).toInt < (r : Int)
      rw [e13]
      exact hn r (by omega)
    · show (upd (km_a μ' 20) (km_a μ 13 k).toNatClampNeg (km_a μ' 20 (km_a μ 13 k).toNatClampNeg + km_a μ' 19 k), km_a μ' 19, km_a μ' 25, km_l μ' 12) = _
      rw [o19, e19, e20, e25, e12]
      unfold w_step
      rw [if_neg c, if_neg c]
  · unfold vX12_waterGoes_215
    intro v e
    subst e2
    refine ih v _ (ev v e) (fun r hr => ?_) (fun u hu => kk u (wl_step (μ' := km_sl μ' 12 (km_l μ' 12 + (km_a μ' 19 k).toInt64)) hn e13 e17 e21 e24 e26 ?_ e11 e18 hu))
    · show -1 ≤ (km_a μ' 13 r).toInt ∧ (km_a μ' 13 r).toInt < (r : Int)
      rw [e13]
      exact hn r (by omega)
    · show (km_a μ' 20, km_a μ' 19, km_a μ' 25, km_l μ' 12 + (km_a μ' 19 k).toInt64) = _
      rw [o19, e19, e20, e25, e12]
      unfold w_step
      rw [if_pos c, if_pos c]
theorem vm_w35 {Q : km_S → Prop} : ∀ (j : Nat) (l1 : Int32) (μ : km_S) (k : Nat), l1.toInt = (k : Int) - 1 → (∀ r, r < k → -1 ≤ (km_a μ 13 r).toInt ∧ (km_a μ 13 r).toInt < (r : Int)) → (∀ u, wl_ k μ u → Q u) → vX12_waterGoes_35 Q j l1 μ := by
  intro j
  induction j with
  | zero => intro _ _ _ _ _ _; exact trivial
  | succ j ih =>
    intro l1 μ k hl hn kk
    unfold vX12_waterGoes_35
    have z : (0 : Int32).toInt = 0 := by decide
    refine ⟨fun c => ?_, fun c => ?_⟩
    · have k0 : k = 0 := by rw [ki_lt, z] at c; omega
      subst k0
      exact kk μ (wl_zero μ)
    rw [ki_lt, z] at c
    obtain ⟨k, rfl⟩ : ∃ q, k = q + 1 := ⟨k - 1, by omega⟩
    have hl2 : l1.toInt = (k : Int) := by omega
    have ek : l1.toNatClampNeg = k := by rw [ki_nat]; omega
    rw [ek]
    rintro - μ18 rfl - - μ21 rfl - - μ24 rfl -
    have ih2 : ∀ (v : Int32) (μ2 : km_S), v.toInt = (k : Int) - 1 → (∀ r, r < k → -1 ≤ (km_a μ2 13 r).toInt ∧ (km_a μ2 13 r).toInt < (r : Int)) → (∀ u, wl_ k μ2 u → Q u) → vX12_waterGoes_35 Q j v μ2 := fun v μ2 h1 h2 h3 => ih v μ2 k h1 h2 h3
    refine ⟨fun d => ?_, fun d => ?_⟩
    · have d : km_a μ 21 k = 0 := d
      refine vm_w166 (μ := μ) ek hl2 hn rfl rfl rfl rfl rfl rfl ?_ ?_ rfl rfl rfl ih2 kk
      · show upd (km_a μ 19) k (km_a μ 20 k) = _
        unfold w_out
        rw [if_pos d]
      · rw [if_pos d]
        rfl
    · have d : ¬ km_a μ 21 k = 0 := d
      rintro - - - μ30 rfl - - v33 e33 - - μ36 rfl - - v39 e39 - - μ42 rfl - μ44 rfl
      obtain ⟨f, ef⟩ : ∃ f, f = km_a μ 25 := ⟨_, rfl⟩
      obtain ⟨i, ei⟩ : ∃ i, i = km_a μ 20 k := ⟨_, rfl⟩
      have F1 : upd f k (f k + i) k = f k + i := w_updS
      have F2 : upd (upd f k (f k + i)) k (upd f k (f k + i) k - v33) k = f k + i - v33 := by rw [w_updS, F1]
      have a33 : v33 = w_max (f k + i - km_a μ 24 k) := by
        have e : v33 = if 0 < (upd (km_a μ 25) k (km_a μ 25 k + km_a μ 20 k) k - km_a μ 24 k) then (upd (km_a μ 25) k (km_a μ 25 k + km_a μ 20 k) k - km_a μ 24 k) else 0 := e33
        rw [← ef, ← ei, F1] at e
        rw [e, w_max0]
      have a39 : v39 = w_min (km_a μ 26 k) (f k + i - v33) := by
        have e : v39 = if (upd (upd (km_a μ 25) k (km_a μ 25 k + km_a μ 20 k)) k (upd (km_a μ 25) k (km_a μ 25 k + km_a μ 20 k) k - v33)) k < km_a μ 26 k then (upd (upd (km_a μ 25) k (km_a μ 25 k + km_a μ 20 k)) k (upd (km_a μ 25) k (km_a μ 25 k + km_a μ 20 k) k - v33)) k else km_a μ 26 k := e39
        rw [← ef, ← ei, F2] at e
        exact e
      have eo : w_out (km_a μ 21 k) (km_a μ 24 k) (km_a μ 26 k) (km_a μ 20 k) (km_a μ 25 k) = v33 + v39 := by
        unfold w_out
        rw [if_neg d, ← ef, ← ei, ← a33, ← a39]
      refine vm_w166 (μ := μ) ek hl2 hn rfl rfl rfl rfl rfl rfl ?_ ?_ rfl rfl rfl ih2 kk
      · rw [eo]
        show upd (upd (km_a μ 19) k (km_a μ 20 k)) k (v39 + v33) = _
        rw [w_upd2, Int32.add_comm]
      · rw [eo, if_neg d]
        show upd (upd (upd (km_a μ 25) k (km_a μ 25 k + km_a μ 20 k)) k (upd (km_a μ 25) k (km_a μ 25 k + km_a μ 20 k) k - v33)) k ((upd (upd (km_a μ 25) k (km_a μ 25 k + km_a μ 20 k)) k (upd (km_a μ 25) k (km_a μ 25 k + km_a μ 20 k) k - v33)) k - v39) = _
        rw [← ef, ← ei, F2, w_upd2, w_upd2, Int32.sub_sub]
/-- the first loop: what melts is what comes in -/
theorem vm_w2 {Q : km_S → Prop} {k28 : km_S → Prop} : ∀ (j : Nat) (l1 : Int32) (μ : km_S) (k : Nat), l1.toInt = (k : Int) → (k : Int) ≤ (km_i μ 3).toInt → (km_i μ 3).toInt ≤ 10 → (∀ F, (∀ r : Nat, k ≤ r → (r : Int) < (km_i μ 3).toInt → F r = km_a μ 17 r) → (∀ r : Nat, r < k → F r = km_a μ 20 r) → ∀ u, km_a u 20 = F → km_i u 3 = km_i μ 3 → (∀ f, f ≠ 20 → km_a u f = km_a μ f) → km_l u = km_l μ → k28 u) → vX12_waterGoes_2 k28 Q j l1 μ := by
  intro j
  induction j with
  | zero => intro _ _ _ _ _ _ _; exact trivial
  | succ j ih =>
    intro l1 μ k hl h1 h2 kk
    unfold vX12_waterGoes_2
    refine ⟨fun c => ?_, fun c => ?_⟩
    · rw [ki_le] at c
      exact kk _ (fun r a b => by omega) (fun r a => rfl) μ rfl rfl (fun _ _ => rfl) rfl
    rw [ki_le] at c
    have ek : l1.toNatClampNeg = k := by rw [ki_nat]; omega
    rw [ek]
    rintro - - μ5 rfl v6 e6
    have o1 : (1 : Int32).toInt = 1 := by decide
    refine ih v6 _ (k + 1) ?_ (show ((k + 1 : Nat) : Int) ≤ (km_i μ 3).toInt by omega) h2 (fun F a b u c1 c2 c3 c4 => kk F (fun r r1 r2 => ?_) (fun r r1 => ?_) u c1 c2 (fun f hf => ?_) c4)
    · rw [e6, ki_add (by rw [hl, o1]; omega) (by rw [hl, o1]; omega), hl, o1]
      omega
    · by_cases d : r = k
      · rw [d, b k (by omega)]
        exact w_updS
      · exact a r (by omega) r2
    · rw [b r (by omega)]
      exact w_updN (by omega)
    · refine (c3 f hf).trans ?_
      show (if f = 20 then _ else km_a μ f) = _
      exact if_neg hf
theorem w_run_ext {nx dm rm gt : Nat → Int32} {n : Nat} : ∀ (k : Nat) (x y : wx_T), k ≤ n → (∀ r, r < k → -1 ≤ (nx r).toInt ∧ (nx r).toInt < (r : Int)) → (∀ r, r < n → x.1 r = y.1 r) → x.2 = y.2 → (∀ r, r < n → (w_run nx dm rm gt k x).1 r = (w_run nx dm rm gt k y).1 r) ∧ (w_run nx dm rm gt k x).2 = (w_run nx dm rm gt k y).2 := by
  intro k
  induction k with
  | zero => intro x y _ _ h1 h2; exact ⟨h1, h2⟩
  | succ k ih =>
    intro x y hk hn h1 h2
    have h2' : x.2.1 = y.2.1 ∧ x.2.2.1 = y.2.2.1 ∧ x.2.2.2 = y.2.2.2 := by rw [h2]; exact ⟨rfl, rfl, rfl⟩
    have hkk := hn k (by omega)
    refine ih (w_step nx dm rm gt k x) (w_step nx dm rm gt k y) (by omega) (fun r hr => hn r (by omega)) (fun r hr => ?_) ?_
    · show (if nx k = -1 then x.1 else upd x.1 (nx k).toNatClampNeg _) r = (if nx k = -1 then y.1 else upd y.1 (nx k).toNatClampNeg _) r
      rw [h1 k (by omega), h2'.2.1]
      by_cases c : nx k = -1
      · rw [if_pos c, if_pos c]
        exact h1 r hr
      · rw [if_neg c, if_neg c, h1 (nx k).toNatClampNeg (by rw [ki_nat]; omega)]
        by_cases d : r = (nx k).toNatClampNeg
        · rw [d, w_updS, w_updS]
        · rw [w_updN d, w_updN d]
          exact h1 r hr
    · show (upd x.2.1 k _, (if dm k = 0 then x.2.2.1 else upd x.2.2.1 k _), _) = (upd y.2.1 k _, (if dm k = 0 then y.2.2.1 else upd y.2.2.1 k _), _)
      rw [h1 k (by omega), h2'.1, h2'.2.1, h2'.2.2]
theorem vm_water {Q : km_S → Prop} {μ : km_S} {n : Nat} (hn : (km_i μ 3).toInt = (n : Int)) (h10 : n ≤ 10) (ok : w_ok n (wm_ μ)) (kk : ∀ u, wm_ u = w_hour n (km_a μ 21) (km_a μ 26) (km_a μ 17) (wm_ μ) → Q u) : vX12_waterGoes μ Q := by
  unfold vX12_waterGoes
  intro j
  refine vm_w2 j 0 μ 0 (by decide) (by omega) (by omega) (fun F a _ u c1 c2 c3 c4 => ?_)
  unfold vX12_waterGoes_28
  intro v45 e45 j2
  have o1 : (1 : Int32).toInt = 1 := by decide
  have u13 := c3 13 (by decide)
  have u17 := c3 17 (by decide)
  have u18 := c3 18 (by decide)
  have u19 := c3 19 (by decide)
  have u21 := c3 21 (by decide)
  have u24 := c3 24 (by decide)
  have u25 := c3 25 (by decide)
  have u26 := c3 26 (by decide)
  refine vm_w35 j2 v45 u n ?_ (fun r hr => ?_) (fun t ht => kk t ?_)
  · rw [e45, c2, ki_sub (by rw [hn, o1]; omega) (by rw [hn, o1]; omega), hn, o1]
  · rw [u13]
    exact ok.1 r hr
  · obtain ⟨b13, b24, b19, b25, b12, b11, b18⟩ := ht
    have hX : wr_X n u = w_run (km_a μ 13) (km_a μ 21) (km_a μ 24) (km_a μ 26) n (F, km_a μ 19, km_a μ 25, km_l μ 12) := by
      show w_run (km_a u 13) (km_a u 21) (km_a u 24) (km_a u 26) n (km_a u 20, km_a u 19, km_a u 25, km_l u 12) = _
      rw [c1, u13, u19, u21, u24, u25, u26, c4]
    obtain ⟨E1, E2⟩ := w_run_ext (nx := km_a μ 13) (dm := km_a μ 21) (rm := km_a μ 24) (gt := km_a μ 26) n (F, km_a μ 19, km_a μ 25, km_l μ 12) (w_from n (km_a μ 17) (wm_ μ)) (Nat.le_refl n) ok.1 (fun r hr => (a r (Nat.zero_le r) (by omega)).trans (if_pos hr).symm) rfl
    rw [← hX] at E1 E2
    have d18 : km_a t 18 = (w_run (km_a μ 13) (km_a μ 21) (km_a μ 24) (km_a μ 26) n (w_from n (km_a μ 17) (wm_ μ))).1 := by
      rw [b18]
      funext r
      show (if r < n then (wr_X n u).1 r else km_a u 18 r) = _
      by_cases c : r < n
      · rw [if_pos c]
        exact E1 r c
      · rw [if_neg c, u18]
        refine Eq.symm ((w_run_hi n (w_from n (km_a μ 17) (wm_ μ)) ok.1 r (by omega)).1.trans ?_)
        exact if_neg c
    rw [E2] at b19 b25 b12
    unfold wm_
    rw [b13, u13, b24, u24, b25, d18, b19, b11, u17, b12, c4]
    rfl
end
section
/-! the class's water -/
theorem vy_get {σ : kx_S} {l : Nat} {i : Int32} {Q : Option Nat → kx_S → Prop} (kk : 0 ≤ i.toInt → i.toInt < (xi σ 18 l).toInt → Q (xe σ l i.toNatClampNeg) σ) : vJx4a65c_get_915e3 l i σ Q := by
  have z : (0 : Int32).toInt = 0 := by decide
  unfold vJx4a65c_get_915e3
  intro _
  unfold vJ15_checkIndex_7cf53 vJ3_checkIndex_8e157
  refine ⟨fun _ => trivial, fun c => ⟨fun d => ?_, fun _ => trivial⟩⟩
  intro _
  unfold vJx4a65c_elementData_915e3
  intro _ a e _ _
  rw [← xe_some e]
  rw [ki_lt] at c d
  exact kk (by omega) d
/-- the reaches: ad r is the r-th -/
def tg_ (ad : Nat → Nat) (n : Nat) (σ : kx_S) : Prop := (∀ R, xt σ R = 10 → ∃ r, r < n ∧ R = ad r) ∧ ∀ r, r < n → xt σ (ad r) = 10
def yv_ (ad : Nat → Nat) (n l1 L : Nat) (dm gt ml nx rm : Nat → Int32) (x : wx_T) (M : Int64) (σ : kx_S) : Prop :=
  xr σ 208 L = some l1 ∧ (xi σ 18 l1).toInt = (n : Int) ∧
  (∀ r, r < n → xe σ l1 r = some (ad r) ∧ (xi σ 160 (ad r)).toInt = (r : Int) ∧ xi σ 165 (ad r) = dm r ∧ xi σ 168 (ad r) = gt r ∧ xi σ 164 (ad r) = ml r ∧ xi σ 166 (ad r) = rm r ∧ ((xr σ 161 (ad r) = none ∧ nx r = -1) ∨ ∃ q : Nat, (nx r).toInt = (q : Int) ∧ q < r ∧ xr σ 161 (ad r) = some (ad q))) ∧
  (∀ r, r < n → xi σ 169 (ad r) = x.1 r ∧ xi σ 170 (ad r) = x.2.1 r ∧ xi σ 167 (ad r) = x.2.2.1 r) ∧ xl σ 220 L = M ∧ xl σ 221 L = x.2.2.2 ∧ tg_ ad n σ
section
variable {ad : Nat → Nat} {n l1 L : Nat} {dm gt ml nx rm : Nat → Int32} {x : wx_T} {M : Int64} {σ : kx_S}
theorem yv_inj (h : yv_ ad n l1 L dm gt ml nx rm x M σ) {r q : Nat} (hr : r < n) (hq : q < n) (e : ad r = ad q) : r = q := by
  have a := (h.2.2.1 r hr).2.1
  have b := (h.2.2.1 q hq).2.1
  rw [e, b] at a
  omega
theorem yv_169 {k : Nat} {v : Int32} (h : yv_ ad n l1 L dm gt ml nx rm x M σ) (hk : k < n) : yv_ ad n l1 L dm gt ml nx rm (upd x.1 k v, x.2) M (xsi σ 169 (ad k) v) := by
  refine ⟨h.1, h.2.1, h.2.2.1, fun r hr => ⟨?_, (h.2.2.2.1 r hr).2⟩, h.2.2.2.2⟩
  show va_up (xi σ 169) (ad k) v (ad r) = upd x.1 k v r
  by_cases c : r = k
  · rw [c, va_up_self, w_updS]
  · rw [va_up_ne _ _ (fun e => c (yv_inj h hr hk e)), w_updN c]
    exact (h.2.2.2.1 r hr).1
theorem yv_170 {k : Nat} {v : Int32} (h : yv_ ad n l1 L dm gt ml nx rm x M σ) (hk : k < n) : yv_ ad n l1 L dm gt ml nx rm (x.1, upd x.2.1 k v, x.2.2) M (xsi σ 170 (ad k) v) := by
  refine ⟨h.1, h.2.1, h.2.2.1, fun r hr => ⟨(h.2.2.2.1 r hr).1, ?_, (h.2.2.2.1 r hr).2.2⟩, h.2.2.2.2⟩
  show va_up (xi σ 170) (ad k) v (ad r) = upd x.2.1 k v r
  by_cases c : r = k
  · rw [c, va_up_self, w_updS]
  · rw [va_up_ne _ _ (fun e => c (yv_inj h hr hk e)), w_updN c]
    exact (h.2.2.2.1 r hr).2.1
theorem yv_167 {k : Nat} {v : Int32} (h : yv_ ad n l1 L dm gt ml nx rm x M σ) (hk : k < n) : yv_ ad n l1 L dm gt ml nx rm (x.1, x.2.1, upd x.2.2.1 k v, x.2.2.2) M (xsi σ 167 (ad k) v) := by
  refine ⟨h.1, h.2.1, h.2.2.1, fun r hr => ⟨(h.2.2.2.1 r hr).1, (h.2.2.2.1 r hr).2.1, ?_⟩, h.2.2.2.2⟩
  show va_up (xi σ 167) (ad k) v (ad r) = upd x.2.2.1 k v r
  by_cases c : r = k
  · rw [c, va_up_self, w_updS]
  · rw [va_up_ne _ _ (fun e => c (yv_inj h hr hk e)), w_updN c]
    exact (h.2.2.2.1 r hr).2.2
theorem yv_220 {v : Int64} (h : yv_ ad n l1 L dm gt ml nx rm x M σ) : yv_ ad n l1 L dm gt ml nx rm x v (xsl σ 220 L v) :=
  ⟨h.1, h.2.1, h.2.2.1, h.2.2.2.1, va_up_self _ _ _, h.2.2.2.2.2⟩
theorem yv_221 {v : Int64} (h : yv_ ad n l1 L dm gt ml nx rm x M σ) : yv_ ad n l1 L dm gt ml nx rm (x.1, x.2.1, x.2.2.1, v) M (xsl σ 221 L v) :=
  ⟨h.1, h.2.1, h.2.2.1, h.2.2.2.1, h.2.2.2.2.1, va_up_self _ _ _, h.2.2.2.2.2.2⟩
theorem vy_pass {k : Nat} {Q : kx_S → Prop} (h : yv_ ad n l1 L dm gt ml nx rm x M σ) (hk : k < n) (kk : ∀ τ, yv_ ad n l1 L dm gt ml nx rm (x.1, upd x.2.1 k (w_out (dm k) (rm k) (gt k) (x.1 k) (x.2.2.1 k)), (if dm k = 0 then x.2.2.1 else upd x.2.2.1 k (x.2.2.1 k + x.1 k - w_out (dm k) (rm k) (gt k) (x.1 k) (x.2.2.1 k))), x.2.2.2) M τ → Q τ) : vX8_passWater (ad k) σ Q := by
  obtain ⟨s1, s2, s3, s4, s5, s6, s7⟩ := h.2.2.1 k hk
  obtain ⟨t1, t2, t3⟩ := h.2.2.2.1 k hk
  unfold vX8_passWater
  intro _
  refine ⟨fun d => ?_, fun d => ?_⟩
  · have d' : ¬ dm k = 0 := by rw [← s3]; exact d
    rintro σ3 rfl v5 e5 v6 e6 σ7 rfl σ9 rfl
    have y3 := yv_167 (v := xi σ 167 (ad k) + xi σ 169 (ad k)) h hk
    obtain ⟨S, eS⟩ : ∃ S, S = x.2.2.1 k + x.1 k := ⟨_, rfl⟩
    have a3 : xi (xsi σ 167 (ad k) (xi σ 167 (ad k) + xi σ 169 (ad k))) 167 (ad k) = S := by
      show va_up (xi σ 167) (ad k) _ (ad k) = _
      rw [va_up_self, t3, t1, eS]
    have a5 : v5 = w_max (S - rm k) := by
      rw [e5, a3]
      show (if S - xi σ 166 (ad k) < 0 then 0 else S - xi σ 166 (ad k)) = _
      rw [s6]
      rfl
    have a6 : v6 = w_min (gt k) (S - v5) := by
      rw [e6, a3]
      show (if S - v5 < xi σ 168 (ad k) then S - v5 else xi σ 168 (ad k)) = _
      rw [s4]
      rfl
    have eo : w_out (dm k) (rm k) (gt k) (x.1 k) (x.2.2.1 k) = v5 + v6 := by
      unfold w_out
      rw [if_neg d', ← eS, ← a5, ← a6]
    have y7 := yv_170 (v := v5 + v6) y3 hk
    have y9 := yv_167 (v := xi (xsi (xsi σ 167 (ad k) (xi σ 167 (ad k) + xi σ 169 (ad k))) 170 (ad k) (v5 + v6)) 167 (ad k) - xi (xsi (xsi σ 167 (ad k) (xi σ 167 (ad k) + xi σ 169 (ad k))) 170 (ad k) (v5 + v6)) 170 (ad k)) y7 hk
    refine kk _ ?_
    rw [if_neg d', eo]
    have b1 : xi (xsi (xsi σ 167 (ad k) (xi σ 167 (ad k) + xi σ 169 (ad k))) 170 (ad k) (v5 + v6)) 167 (ad k) = S := a3
    have b2 : xi (xsi (xsi σ 167 (ad k) (xi σ 167 (ad k) + xi σ 169 (ad k))) 170 (ad k) (v5 + v6)) 170 (ad k) = v5 + v6 := by
      show va_up _ (ad k) _ (ad k) = _
      rw [va_up_self]
    rw [b1, b2] at y9
    rw [b1, b2, ← eS]
    have e2 : upd (upd x.2.2.1 k (xi σ 167 (ad k) + xi σ 169 (ad k))) k (S - (v5 + v6)) = upd x.2.2.1 k (S - (v5 + v6)) := w_upd2
    rw [← e2]
    exact y9
  · have d' : dm k = 0 := by rw [← s3]; exact d
    rintro σ11 rfl
    refine kk _ ?_
    have eo : w_out (dm k) (rm k) (gt k) (x.1 k) (x.2.2.1 k) = x.1 k := by
      unfold w_out
      rw [if_pos d']
    rw [if_pos d', eo, t1]
    exact yv_170 h hk
theorem vy_w69 {Q : kx_S → Prop} : ∀ (j : Nat) (i : Int32) (x : wx_T) (σ : kx_S) (k : Nat), i.toInt = (k : Int) - 1 → k ≤ n → yv_ ad n l1 L dm gt ml nx rm x M σ → (∀ τ, yv_ ad n l1 L dm gt ml nx rm (w_run nx dm rm gt k x) M τ → Q τ) → vX11_runWater_69 Q j L i σ := by
  intro j
  induction j with
  | zero => intro _ _ _ _ _ _ _ _; exact trivial
  | succ j ih =>
    intro i x σ k hi hk h kk
    unfold vX11_runWater_69
    have z : (0 : Int32).toInt = 0 := by decide
    have m1 : (-1 : Int32).toInt = -1 := by decide
    refine ⟨fun c => ?_, fun c => ?_⟩
    · have k0 : k = 0 := by rw [ki_lt, z] at c; omega
      subst k0
      exact kk σ h
    rw [ki_lt, z] at c
    obtain ⟨k, rfl⟩ : ∃ q, k = q + 1 := ⟨k - 1, by omega⟩
    have ek : i.toNatClampNeg = k := by rw [ki_nat]; omega
    intro _ a27 e27 _
    have q1 : a27 = l1 := Option.some.inj (e27.symm.trans h.1)
    subst q1
    refine vy_get (fun _ _ => ?_)
    rw [ek]
    intro a32 e32 _
    obtain ⟨s1, s2, s3, s4, s5, s6, s7⟩ := h.2.2.1 k (by omega)
    have q2 : ad k = a32 := Option.some.inj (s1.symm.trans e32)
    subst q2
    refine vy_pass h (by omega) (fun τ hτ => ?_)
    obtain ⟨o, eo⟩ : ∃ o, o = w_out (dm k) (rm k) (gt k) (x.1 k) (x.2.2.1 k) := ⟨_, rfl⟩
    obtain ⟨u1, u2, u3, u4, u5, u6, u7⟩ := hτ.2.2.1 k (by omega)
    have v1 : xi τ 170 (ad k) = o := by
      rw [(hτ.2.2.2.1 k (by omega)).2.1, ← eo]
      exact w_updS
    have ev : ∀ v : Int32, v = i + (-1) → v.toInt = (k : Int) - 1 := by
      intro v e
      have h1 := ki_hi i
      rw [e, ki_add (by rw [m1]; omega) (by rw [m1]; omega), hi, m1]
      omega
    intro _
    refine ⟨fun a38 _ a39 e39 _ => ?_, fun e38 _ => ?_⟩
    · rintro σ42 rfl
      unfold vX11_runWater_131
      intro v ev1
      obtain ⟨q, h1, h2, h3⟩ : ∃ q : Nat, (nx k).toInt = (q : Int) ∧ q < k ∧ xr τ 161 (ad k) = some (ad q) := by
        rcases u7 with ⟨e, _⟩ | w
        · rw [e] at e39; exact absurd e39 (by simp)
        · exact w
      have q3 : ad q = a39 := Option.some.inj (h3.symm.trans e39)
      subst q3
      have nn : ¬ nx k = -1 := by rw [ki_eq, m1]; omega
      have eq : (nx k).toNatClampNeg = q := by rw [ki_nat]; omega
      have y := yv_169 (v := xi τ 169 (ad q) + xi τ 170 (ad k)) hτ (show q < n by omega)
      refine ih v (w_step nx dm rm gt k x) _ k (ev v ev1) (by omega) ?_ kk
      unfold w_step
      rw [if_neg nn, if_neg nn, eq, ← eo]
      rw [(hτ.2.2.2.1 q (by omega)).1, v1] at y
      rw [(hτ.2.2.2.1 q (by omega)).1, v1]
      rw [← eo] at y
      exact y
    · rintro σ46 rfl
      unfold vX11_runWater_131
      intro v ev1
      have nn : nx k = -1 := by
        rcases u7 with ⟨_, e⟩ | ⟨q, _, _, w⟩
        · exact e
        · rw [w] at e38; exact absurd e38 (by simp)
      have y := yv_221 (v := xl τ 221 L + (xi τ 170 (ad k)).toInt64) hτ
      refine ih v (w_step nx dm rm gt k x) _ k (ev v ev1) (by omega) ?_ kk
      unfold w_step
      rw [if_pos nn, if_pos nn, ← eo]
      rw [hτ.2.2.2.2.2.1, v1] at y
      rw [hτ.2.2.2.2.2.1, v1]
      rw [← eo] at y
      exact y
theorem vy_w2 {Q : kx_S → Prop} {k57 : Nat → kx_S → Prop} : ∀ (j : Nat) (i : Int32) (x : wx_T) (M : Int64) (σ : kx_S) (k : Nat), i.toInt = (k : Int) → k ≤ n → n ≤ 10 → yv_ ad n l1 L dm gt ml nx rm (fun r => if r < k then ml r else x.1 r, x.2) (M + w_sum ml k) σ → (∀ τ, yv_ ad n l1 L dm gt ml nx rm (fun r => if r < n then ml r else x.1 r, x.2) (M + w_sum ml n) τ → k57 L τ) → vX11_runWater_2 k57 Q j L i σ := by
  intro j
  induction j with
  | zero => intro _ _ _ _ _ _ _ _ _ _; exact trivial
  | succ j ih =>
    intro i x M σ k hi hk h10 h kk
    unfold vX11_runWater_2
    have o1 : (1 : Int32).toInt = 1 := by decide
    intro _ a3 e3 _
    have q1 : a3 = l1 := Option.some.inj (e3.symm.trans h.1)
    subst q1
    unfold vJx4a65c_size_8abf5
    intro _
    refine ⟨fun c => ?_, fun c => ?_⟩
    · rw [ki_le, h.2.1] at c
      have : k = n := by omega
      subst this
      exact kk σ h
    rw [ki_le, h.2.1] at c
    have ek : i.toNatClampNeg = k := by rw [ki_nat]; omega
    intro _ a10 e10 _
    have q2 : a10 = a3 := Option.some.inj (e10.symm.trans h.1)
    subst q2
    refine vy_get (fun _ _ => ?_)
    rw [ek]
    intro a15 e15 _
    obtain ⟨s1, s2, s3, s4, s5, s6, s7⟩ := h.2.2.1 k (by omega)
    have q3 : ad k = a15 := Option.some.inj (s1.symm.trans e15)
    subst q3
    rintro σ18 rfl _ σ21 rfl v24 e24
    have y1 := yv_169 (v := xi σ 164 (ad k)) h (show k < n by omega)
    have y2 := yv_220 (v := xl (xsi σ 169 (ad k) (xi σ 164 (ad k))) 220 L + (xi (xsi σ 169 (ad k) (xi σ 164 (ad k))) 164 (ad k)).toInt64) y1
    refine ih v24 x M _ (k + 1) ?_ (by omega) h10 ?_ kk
    · rw [e24, ki_add (by rw [hi, o1]; omega) (by rw [hi, o1]; omega), hi, o1]
      omega
    have c1 : xl (xsi σ 169 (ad k) (xi σ 164 (ad k))) 220 L + (xi (xsi σ 169 (ad k) (xi σ 164 (ad k))) 164 (ad k)).toInt64 = M + w_sum ml (k + 1) := by
      show xl σ 220 L + (xi σ 164 (ad k)).toInt64 = M + (w_sum ml k + (ml k).toInt64)
      rw [h.2.2.2.2.1, s5, Int64.add_assoc]
    have c2 : (upd (fun r => if r < k then ml r else x.1 r) k (xi σ 164 (ad k)) : Nat → Int32) = fun r => if r < k + 1 then ml r else x.1 r := by
      funext r
      show _ = (if r < k + 1 then ml r else x.1 r)
      by_cases c : r = k
      · rw [c, w_updS, if_pos (by omega), s5]
      · rw [w_updN c]
        by_cases d : r < k
        · rw [if_pos d, if_pos (by omega)]
        · rw [if_neg d, if_neg (by omega)]
    rw [← c2, ← c1]
    exact y2
theorem vy_water {Q : kx_S → Prop} (h10 : n ≤ 10) (h : yv_ ad n l1 L dm gt ml nx rm x M σ) (kk : ∀ τ, yv_ ad n l1 L dm gt ml nx rm (w_run nx dm rm gt n (fun r => if r < n then ml r else x.1 r, x.2)) (M + w_sum ml n) τ → Q τ) : vX11_runWater L σ Q := by
  unfold vX11_runWater
  intro j
  refine vy_w2 (ad := ad) (l1 := l1) (dm := dm) (gt := gt) (ml := ml) (nx := nx) (rm := rm) j 0 x M σ 0 (by decide) (Nat.zero_le n) h10 ?_ (fun τ hτ => ?_)
  · have e : (M + w_sum ml 0) = M := Int64.add_zero M
    rw [e]
    exact h
  unfold vX11_runWater_57
  intro _ a50 e50 _
  have q1 : a50 = l1 := Option.some.inj (e50.symm.trans hτ.1)
  subst q1
  unfold vJx4a65c_size_8abf5
  intro _ v55 e55 j2
  have o1 : (1 : Int32).toInt = 1 := by decide
  refine vy_w69 j2 v55 _ τ n ?_ (Nat.le_refl n) hτ kk
  rw [e55, ki_sub (by rw [hτ.2.1, o1]; omega) (by rw [hτ.2.1, o1]; omega), hτ.2.1, o1]
end
end
section
/-! water among the class's calls -/
def yw_ (ad : Nat → Nat) (n : Nat) (w : wt_T) (L : Nat) (σ : kx_S) : Prop :=
  tg_ ad n σ ∧ (∀ r, r < n → (xi σ 160 (ad r)).toInt = (r : Int) ∧ xi σ 166 (ad r) = w.2.1 r ∧ xi σ 167 (ad r) = w.2.2.1 r ∧ xi σ 169 (ad r) = w.2.2.2.1 r ∧ xi σ 170 (ad r) = w.2.2.2.2.1 r ∧ ((xr σ 161 (ad r) = none ∧ w.1 r = -1) ∨ ∃ q : Nat, (w.1 r).toInt = (q : Int) ∧ q < r ∧ xr σ 161 (ad r) = some (ad q))) ∧ xl σ 220 L = w.2.2.2.2.2.1 ∧ xl σ 221 L = w.2.2.2.2.2.2
def Yw_ (n : Nat) (w : wt_T) (L : Nat) (σ : kx_S) : Prop := ∃ ad, yw_ ad n w L σ
/-- nothing of it changed -/
def wf_ (L : Nat) (σ u : kx_S) : Prop := (∀ a, xt σ a ≠ 0 → xt u a = xt σ a) ∧ (∀ a, xt u a = 10 → xt σ a = 10) ∧ (∀ a, xt σ a = 10 → xi u 160 a = xi σ 160 a ∧ xi u 166 a = xi σ 166 a ∧ xi u 167 a = xi σ 167 a ∧ xi u 169 a = xi σ 169 a ∧ xi u 170 a = xi σ 170 a ∧ xr u 161 a = xr σ 161 a) ∧ xl u 220 L = xl σ 220 L ∧ xl u 221 L = xl σ 221 L
theorem wf_refl {L : Nat} {σ : kx_S} : wf_ L σ σ := ⟨fun _ _ => rfl, fun _ h => h, fun _ _ => ⟨rfl, rfl, rfl, rfl, rfl, rfl⟩, rfl, rfl⟩
theorem wf_fw {L : Nat} {σ : kx_S} (hL : xt σ L ≠ 0) {W : List Nat} (hW : ∀ f ∈ W, f ≠ 160 ∧ f ≠ 161 ∧ f ≠ 166 ∧ f ≠ 167 ∧ f ≠ 169 ∧ f ≠ 170 ∧ f ≠ 220 ∧ f ≠ 221 ∧ f ≠ 1110 ∧ f ≠ 1210) : fw_ (wf_ L σ) W := by
  intro u h
  have np : ∀ p a, xt u p = 0 → xt σ a ≠ 0 → a ≠ p := fun p a hp ha e => ha (by rw [← h.1 a ha, e]; exact hp)
  refine ⟨fun f hf => ?_, fun _ a i v => h, fun _ a i v => h, fun _ => ⟨fun a i v => h, fun a f => h⟩, fun _ a f => h, fun _ => h, fun t ht p hp => ?_, fun t ht p hp n => ?_⟩
  · obtain ⟨n1, n2, n3, n4, n5, n6, n7, n8, _⟩ := hW f hf
    refine ⟨fun a v => ⟨h.1, h.2.1, fun b hb => ?_, h.2.2.2⟩, fun a v => ⟨h.1, h.2.1, fun b hb => ?_, h.2.2.2⟩, fun a v => ⟨h.1, h.2.1, h.2.2.1, ?_, ?_⟩⟩
    · obtain ⟨q1, q2, q3, q4, q5, q6⟩ := h.2.2.1 b hb
      have e : ∀ g, g ≠ f → xi (xsi u f a v) g b = xi u g b := fun g hg => by
        show (if g = f then va_up (u.2.1 f) a v else u.2.1 g) b = u.2.1 g b
        rw [if_neg hg]
      exact ⟨(e 160 (Ne.symm n1)).trans q1, (e 166 (Ne.symm n3)).trans q2, (e 167 (Ne.symm n4)).trans q3, (e 169 (Ne.symm n5)).trans q4, (e 170 (Ne.symm n6)).trans q5, q6⟩
    · obtain ⟨q1, q2, q3, q4, q5, q6⟩ := h.2.2.1 b hb
      refine ⟨q1, q2, q3, q4, q5, ?_⟩
      show (if 161 = f then va_up (u.2.2.1 f) a v else u.2.2.1 161) b = _
      rw [if_neg (Ne.symm n2)]
      exact q6
    · show (if 220 = f then va_up (u.2.2.2.1 f) a v else u.2.2.2.1 220) L = _
      rw [if_neg (Ne.symm n7)]
      exact h.2.2.2.1
    · show (if 221 = f then va_up (u.2.2.2.1 f) a v else u.2.2.2.1 221) L = _
      rw [if_neg (Ne.symm n8)]
      exact h.2.2.2.2
  · have t10 : t ≠ 10 := fun e => (hW _ ht).2.2.2.2.2.2.2.2.1 (by rw [e])
    refine ⟨fun a ha => ?_, fun a ha => ?_, fun a ha => ?_, ?_, ?_⟩
    · show va_up (xt u) p t a = _
      rw [va_up_ne _ _ (np p a hp ha)]
      exact h.1 a ha
    · have ha : va_up (xt u) p t a = 10 := ha
      by_cases c : a = p
      · rw [c, va_up_self] at ha
        exact absurd ha t10
      · rw [va_up_ne _ _ c] at ha
        exact h.2.1 a ha
    · have ne := np p a hp (by rw [ha]; decide)
      obtain ⟨q1, q2, q3, q4, q5, q6⟩ := h.2.2.1 a ha
      exact ⟨(va_up_ne _ _ ne).trans q1, (va_up_ne _ _ ne).trans q2, (va_up_ne _ _ ne).trans q3, (va_up_ne _ _ ne).trans q4, (va_up_ne _ _ ne).trans q5, (va_up_ne _ _ ne).trans q6⟩
    · exact (va_up_ne _ _ (np p L hp hL)).trans h.2.2.2.1
    · exact (va_up_ne _ _ (np p L hp hL)).trans h.2.2.2.2
  · have t10 : t ≠ 10 := fun e => (hW _ ht).2.2.2.2.2.2.2.2.2 (by rw [e])
    refine ⟨fun a ha => ?_, fun a ha => ?_, h.2.2.1, h.2.2.2⟩
    · show va_up (xt u) p t a = _
      rw [va_up_ne _ _ (np p a hp ha)]
      exact h.1 a ha
    · have ha : va_up (xt u) p t a = 10 := ha
      by_cases c : a = p
      · rw [c, va_up_self] at ha
        exact absurd ha t10
      · rw [va_up_ne _ _ c] at ha
        exact h.2.1 a ha
theorem yw_wf {ad : Nat → Nat} {n L : Nat} {w : wt_T} {σ u : kx_S} (h : yw_ ad n w L σ) (F : wf_ L σ u) : yw_ ad n w L u := by
  obtain ⟨⟨t1, t2⟩, h1, h2, h3⟩ := h
  refine ⟨⟨fun R hR => t1 R (F.2.1 R hR), fun r hr => (F.1 _ (by rw [t2 r hr]; decide)).trans (t2 r hr)⟩, fun r hr => ?_, F.2.2.2.1.trans h2, F.2.2.2.2.trans h3⟩
  obtain ⟨q1, q2, q3, q4, q5, q6⟩ := F.2.2.1 (ad r) (t2 r hr)
  rw [q1, q2, q3, q4, q5, q6]
  exact h1 r hr
theorem Yw_wf {n L : Nat} {w : wt_T} {σ u : kx_S} (h : Yw_ n w L σ) (F : wf_ L σ u) : Yw_ n w L u := by
  obtain ⟨ad, h⟩ := h
  exact ⟨ad, yw_wf h F⟩
/-- the list of reaches is the reaches in their order -/
theorem yw_at {s : sz_T} {E : Nat → Prop} {g κ : Nat → Nat} {B m n : Nat} {σ : kx_S} {ad : Nat → Nat} {w : wt_T} {L : Nat} (J : yI_ s E g κ B m σ) (hn : s.1.1.toInt = (n : Int)) (h : yw_ ad n w L σ) {r : Nat} (hr : r < n) : xe σ (g 1) r = some (ad r) ∧ xi σ 165 (ad r) = s.2.1 r ∧ xi σ 168 (ad r) = s.2.2.1 r ∧ xi σ 164 (ad r) = s.2.2.2.1 r := by
  have e1 : xi σ 18 (g 1) = s.1.1 := congrArg (fun p => p.1) J.2.2.2.2.1
  have hr' : (r : Int) < (xi σ 18 (g 1)).toInt := by rw [e1, hn]; omega
  obtain ⟨R, r1, r2, r3, r4, r5, _⟩ := J.2.2.2.2.2.1 r hr'
  obtain ⟨y, ey, ty⟩ := ry_el J.1 (yg1 J).2.1 hr'
  have q : y = R := Option.some.inj (ey.symm.trans r1)
  rw [q, (yg1 J).2.2] at ty
  obtain ⟨r', h1, h2⟩ := h.1.1 R ty
  have a := (h.2.1 r' h1).1
  rw [← h2, r2] at a
  have : r' = r := by omega
  rw [this] at h2
  rw [← h2]
  exact ⟨r1, r3, r4, r5⟩
theorem yw_yv {s : sz_T} {g κ : Nat → Nat} {B m n : Nat} {σ : kx_S} {ad : Nat → Nat} {w : wt_T} (J : yJ_ s g κ B m σ) (hn : s.1.1.toInt = (n : Int)) (h : yw_ ad n w (g 0) σ) : yv_ ad n (g 1) (g 0) s.2.1 s.2.2.1 s.2.2.2.1 w.1 w.2.1 (w.2.2.2.1, w.2.2.2.2.1, w.2.2.1, w.2.2.2.2.2.2) w.2.2.2.2.2.1 σ := by
  have e1 : xi σ 18 (g 1) = s.1.1 := congrArg (fun p => p.1) J.2.2.2.2.1
  refine ⟨(yg1 J).1, by rw [e1]; exact hn, fun r hr => ?_, fun r hr => ?_, h.2.2.1, h.2.2.2, h.1⟩
  · obtain ⟨a1, a2, a3, a4⟩ := yw_at J hn h hr
    obtain ⟨b1, b2, b3, b4, b5, b6⟩ := h.2.1 r hr
    exact ⟨a1, b1, a2, a3, a4, b2, b6⟩
  · obtain ⟨b1, b2, b3, b4, b5, b6⟩ := h.2.1 r hr
    exact ⟨b4, b5, b3⟩
theorem vw_water {s : sz_T} {g κ : Nat → Nat} {B m n : Nat} {σ : kx_S} {w : wt_T} {Q : kx_S → Prop} (J : yJ_ s g κ B m σ) (hn : s.1.1.toInt = (n : Int)) (V : Yw_ n w (g 0) σ) (kk : ∀ τ, Yw_ n (w_hour n s.2.1 s.2.2.1 s.2.2.2.1 w) (g 0) τ → Q τ) : vX11_runWater (g 0) σ Q := by
  obtain ⟨ad, h⟩ := V
  have e1 : xi σ 18 (g 1) = s.1.1 := congrArg (fun p => p.1) J.2.2.2.2.1
  have h10 : n ≤ 10 := by have := J.2.2.2.2.2.2.2.1; rw [e1, hn] at this; omega
  refine vy_water h10 (yw_yv J hn h) (fun τ y => kk τ ⟨ad, y.2.2.2.2.2.2, fun r hr => ?_, y.2.2.2.2.1, y.2.2.2.2.2.1⟩)
  obtain ⟨a1, a2, a3, a4, a5, a6, a7⟩ := y.2.2.1 r hr
  obtain ⟨b1, b2, b3⟩ := y.2.2.2.1 r hr
  exact ⟨a2, a6, b3, b1, b2, a7⟩
def wz_hours (m : Int32) (s : sz_T) (n : Nat) (w : wt_T) : wt_T := if m < 0 ∨ 200 < m ∨ ¬ (s.1.2.2.2.2.2 + m ≤ 20000) then w else w_hours n s.2.1 s.2.2.1 s.2.2.2.1 m.toNatClampNeg w
theorem Yw_217 {n L a : Nat} {w : wt_T} {σ : kx_S} {v : Int32} (h : Yw_ n w L σ) : Yw_ n w L (xsi σ 217 a v) := h
theorem Yw_bump {n L : Nat} {w : wt_T} {σ : kx_S} (h : Yw_ n w L σ) : Yw_ n w L (xbump σ) := h
theorem rv_hours {k : Nat} {s : sz_T} {L O : Nat} {σ : kx_S} {m : Int32} {nr : Nat} {w : wt_T} (hk : k < 600) (Z : yZ_ k s L O σ) (hnr : s.1.1.toInt = (nr : Int)) (V : Yw_ nr w L σ) : wX11_hours L m σ (fun r u => qz_ k L O (z_hours m s) r u ∧ Yw_ nr (wz_hours m s nr w) L u) (fun e u => qe_ k L O pz_I (z_hours m s) e u ∧ Yw_ nr (wz_hours m s nr w) L u) := by
  obtain ⟨g, κ, B, n, e, eO, J, hn, hB⟩ := Z
  subst e
  subst eO
  have b := yB_ J hk hn hB
  have hB3 : B ≤ 3000 := by omega
  have hn2 : n ≤ 200 := by omega
  have hB' : B ≤ 15 + 26 * s.1.1.toNatClampNeg + 3 * (k + 1) := by omega
  have room := ry_room J.1 hB3 hn2
  have z200 : (200 : Int32).toInt = 200 := by decide
  have e6 : xi σ 217 (g 0) = s.1.2.2.2.2.2 := congrArg (fun p => p.2.2.2.2.2) J.2.2.2.2.1
  have no : ∀ {Q : Int32 → kx_S → Prop}, (m < 0 ∨ 200 < m ∨ ¬ (s.1.2.2.2.2.2 + m ≤ 20000)) → wX11_hours_23 Q (fun e u => qe_ k (g 0) (g 10) pz_I (z_hours m s) e u ∧ Yw_ nr (wz_hours m s nr w) (g 0) u) σ := fun c => by
    refine ⟨room, ⟨rfl, ?_⟩, ?_⟩
    · rw [show z_hours m s = (1, 0, s) from if_pos c]
      exact ⟨rfl, yZ_bump J hn hB⟩
    · rw [show wz_hours m s nr w = w from if_pos c]
      exact Yw_bump V
  refine rx_within (fun c => ⟨fun _ => no ?_, fun x => absurd rfl x⟩) (fun c1 c2 => ⟨fun x => absurd x (by decide), fun _ => ⟨yg0 J, fun c => ⟨202, ?_⟩, fun c => no ?_⟩⟩)
  · rw [ki_z0, z200] at c
    rw [ki_lt, ki_z0, ki_lt, z200]
    omega
  · rw [ki_z0] at c1
    rw [z200] at c2
    rw [e6] at c
    have hno : ¬ (m < 0 ∨ 200 < m ∨ ¬ (s.1.2.2.2.2.2 + m ≤ 20000)) := by
      rw [ki_lt, ki_z0, ki_lt, z200]
      intro h
      rcases h with h | h | h
      · omega
      · omega
      · exact h c
    rw [show z_hours m s = (0, s.1.2.2.2.2.2 + m, zn_ s (s.1.2.2.2.2.2 + m)) from if_neg hno, show wz_hours m s nr w = w_hours nr s.2.1 s.2.2.1 s.2.2.2.1 m.toNatClampNeg w from if_neg hno]
    clear hno no c e6 b
    generalize hq : (fun (r : Int32) (u : kx_S) => qz_ k (g 0) (g 10) (0, s.1.2.2.2.2.2 + m, zn_ s (s.1.2.2.2.2.2 + m)) r u ∧ Yw_ nr (w_hours nr s.2.1 s.2.2.1 s.2.2.2.1 m.toNatClampNeg w) (g 0) u) = QQ
    generalize (fun (e : String) (u : kx_S) => qe_ k (g 0) (g 10) pz_I (0, s.1.2.2.2.2.2 + m, zn_ s (s.1.2.2.2.2.2 + m)) e u ∧ Yw_ nr (w_hours nr s.2.1 s.2.2.1 s.2.2.2.1 m.toNatClampNeg w) (g 0) u) = QX
    have Lp : ∀ (j : Nat) (i : Int32) (τ : kx_S), 0 ≤ i.toInt → i.toInt ≤ m.toInt → m.toInt - i.toInt < (j : Int) → yJ_ (zn_ s (s.1.2.2.2.2.2 + i)) g κ B n τ → Yw_ nr (w_hours nr s.2.1 s.2.2.1 s.2.2.2.1 i.toNatClampNeg w) (g 0) τ → wX11_hours_35 (wX11_hours_84 QQ QX) QQ QX j (g 0) m i τ := by
      intro j
      induction j with
      | zero => intro i τ h1 h2 h3; omega
      | succ j ih =>
        intro i τ h1 h2 h3 J1 V1
        refine ⟨fun q => ?_, fun q => ⟨yg0 J1, ?_⟩⟩
        · rw [ki_le] at q
          have en : i = m := ki_eq.2 (by omega)
          rw [en] at J1 V1
          refine ⟨yg0 J1, ?_⟩
          rw [← hq]
          exact ⟨⟨rfl, congrArg (fun p => p.2.2.2.2.2) J1.2.2.2.2.1, yZ_of J1 hn hB'⟩, V1⟩
        · rw [ki_le] at q
          obtain ⟨i', ei, ii⟩ := ki_incE (a := i) (by omega) (by omega)
          have a1 : 0 ≤ i'.toInt := by omega
          have a2 : i'.toInt ≤ m.toInt := by omega
          have a3 : m.toInt - i'.toInt < (j : Int) := by omega
          have ti : ∀ {τ : kx_S}, yJ_ (zn_ s (s.1.2.2.2.2.2 + i)) g κ B n τ → xt τ (g 0) ≠ 0 := fun J => by rw [yg0 J]; decide
          refine jcX11_runWater (Q := fun τ => yJ_ (zn_ s (s.1.2.2.2.2.2 + i)) g κ B n τ) (Q' := fun τ => Yw_ nr (w_hour nr s.2.1 s.2.2.1 s.2.2.2.1 (w_hours nr s.2.1 s.2.2.1 s.2.2.2.1 i.toNatClampNeg w)) (g 0) τ) (fun τ2 J2 V2 => ⟨yg0 J2, ?_⟩) _ _ (rx_runWater J1 (fun _ K => K.1)) (vw_water J1 hnr V1 (fun _ V => V))
          refine jcX11_moveLogs (Q := fun τ => yJ_ (zn_ s (s.1.2.2.2.2.2 + i)) g κ B n τ) (Q' := fun τ => wf_ (g 0) τ2 τ) (fun τ3 J3 F3 => ⟨yg0 J3, ?_⟩) _ _ (rx_moveLogs J2 hB3 hn2 (fun _ J _ => J)) (jfX11_moveLogs (wf_fw (ti J2) (by decide)) (fun _ h => h) _ _ wf_refl)
          refine jcX11_jamCells (Q := fun τ => yJ_ (zn_ s (s.1.2.2.2.2.2 + i)) g κ B n τ) (Q' := fun τ => wf_ (g 0) τ3 τ) (fun τ4 J4 F4 => ⟨yg0 J4, ?_⟩) _ _ (rx_jamCells J3 (fun _ J _ => J)) (jfX11_jamCells (wf_fw (ti J3) (by decide)) (fun _ h => h) _ _ wf_refl)
          refine jcX11_freeJams (Q := fun τ => yJ_ (zn_ s (s.1.2.2.2.2.2 + i)) g κ B n τ) (Q' := fun τ => wf_ (g 0) τ4 τ) (fun τ5 J5 F5 => ⟨yg0 J5, ?_⟩) _ _ (rx_freeJams J4 (fun _ J _ => J)) (jfX11_freeJams (wf_fw (ti J4) (by decide)) (fun _ h => h) _ _ wf_refl)
          refine jcX11_makeJamsKnown (Q := fun τ => yJ_ (zn_ s (s.1.2.2.2.2.2 + i)) g κ B n τ) (Q' := fun τ => wf_ (g 0) τ5 τ) (fun τ6 J6 F6 => ⟨yg0 J6, ?_⟩) _ _ (rx_makeJamsKnown J5 (fun _ J _ => J)) (jfX11_makeJamsKnown (wf_fw (ti J5) (by decide)) (fun _ h => h) _ _ wf_refl)
          refine jcX11_ageLogs (Q := fun τ => yJ_ (zn_ s (s.1.2.2.2.2.2 + i)) g κ B n τ) (Q' := fun τ => wf_ (g 0) τ6 τ) (fun τ7 J7 F7 => ⟨yg0 J7, ?_⟩) _ _ (rx_ageLogs J6 (fun _ J _ => J)) (jfX11_ageLogs (wf_fw (ti J6) (by decide)) (fun _ h => h) _ _ wf_refl)
          refine jcX11_runMills (Q := fun τ => yJ_ (zn_ s (s.1.2.2.2.2.2 + i)) g κ B n τ) (Q' := fun τ => wf_ (g 0) τ7 τ) (fun τ8 J8 F8 => ⟨yg0 J8, fun τ9 e9 v ev => ?_⟩) _ _ (rx_runMills J7 (fun _ J _ => J)) (jfX11_runMills (wf_fw (ti J7) (by decide)) (fun _ h => h) _ _ wf_refl)
          have V8 := Yw_wf (Yw_wf (Yw_wf (Yw_wf (Yw_wf (Yw_wf V2 F3) F4) F5) F6) F7) F8
          have e8 : xi τ8 217 (g 0) = s.1.2.2.2.2.2 + i := congrArg (fun p => p.2.2.2.2.2) J8.2.2.2.2.1
          rw [ev, ← ei, e9, e8]
          have et : i'.toNatClampNeg = i.toNatClampNeg + 1 := by rw [ki_nat, ki_nat]; omega
          refine ih i' _ a1 a2 a3 ?_ ?_
          · have := yI_217 (v := s.1.2.2.2.2.2 + i + 1) J8
            rw [ei, ← Int32.add_assoc]
            exact this
          · rw [et, w_hours_snoc]
            exact Yw_217 V8
    refine Lp 202 0 σ (by decide) (by rw [ki_z0]; omega) (by rw [ki_z0]; omega) ?_ V
    rw [Int32.add_zero]
    exact J
  · rw [e6] at c
    exact .inr (.inr c)
def wz_dam (r v : Int32) (s : sz_T) (w : wt_T) : wt_T := if z_is r s then (if v < 0 ∨ ¬ v ≤ 100000 then w else (w.1, upd w.2.1 r.toNatClampNeg v, w.2.2)) else w
theorem vy_within {v a b : Int32} {σ : kx_S} {Q : Int32 → kx_S → Prop} (k0 : ¬ (a.toInt ≤ v.toInt ∧ v.toInt ≤ b.toInt) → Q 0 σ) (k1 : a.toInt ≤ v.toInt → v.toInt ≤ b.toInt → Q 1 σ) : vX11_isWithin v a b σ Q := by
  refine ⟨fun c => k0 ?_, fun c => ⟨fun d => k0 ?_, fun d => k1 ?_ ?_⟩⟩
  all_goals (simp only [ki_lt] at *; omega)
theorem rv_dam {k : Nat} {s : sz_T} {L O : Nat} {σ : kx_S} {r v : Int32} {nr : Nat} {w : wt_T} (hk : k < 600) (Z : yZ_ k s L O σ) (hnr : s.1.1.toInt = (nr : Int)) (V : Yw_ nr w L σ) : wX11_dam L r v σ (fun x u => qz_ k L O (z_dam r v s) x u ∧ Yw_ nr (wz_dam r v s w) L u) (fun e u => qe_ k L O pz_N (z_dam r v s) e u ∧ Yw_ nr (wz_dam r v s w) L u) := by
  have R0 := rx_dam (r := r) (v := v) hk Z
  obtain ⟨g, κ, B, n, e, eO, J, hn, hB⟩ := Z
  subst e
  subst eO
  have b := yB_ J hk hn hB
  have z0 : (100000 : Int32).toInt = 100000 := by decide
  refine jcX11_dam (Q' := fun _ u => Yw_ nr (wz_dam r v s w) (g 0) u) (QX' := fun _ u => Yw_ nr (wz_dam r v s w) (g 0) u) (fun _ _ a b => ⟨a, b⟩) (fun _ _ a b => ⟨a, b⟩) _ _ _ _ R0 ?_
  unfold vX11_dam
  intro _
  refine jaX11_reachAt (Q := fun R u => z_is r s ∧ xe σ (g 1) r.toNatClampNeg = some R ∧ u = σ) (QX := fun _ u => ¬ z_is r s ∧ u = xbump σ) (fun R u h => ?_) (fun _ u h => ?_) _ _ _ (rx_reachAt J (by omega) (by omega) (fun hz R eR _ => ⟨hz, eR, rfl⟩) (fun hz => ⟨hz, rfl⟩))
  · obtain ⟨hz, eR, rfl⟩ := h
    unfold wz_dam
    rw [if_pos hz]
    refine vy_within (fun c => ⟨fun x => absurd rfl x, fun _ => ?_⟩) (fun c1 c2 => ⟨fun _ _ τ1 e1 τ2 e2 => ?_, fun x => absurd x (by decide)⟩)
    · rw [ki_z0, z0] at c
      rw [if_pos (by rw [ki_lt, ki_le, ki_z0, z0]; omega)]
      exact V
    · rw [ki_z0] at c1
      rw [z0] at c2
      rw [if_neg (by rw [ki_lt, ki_le, ki_z0, z0]; omega), e2, e1]
      obtain ⟨ad, h⟩ := V
      have hr : r.toNatClampNeg < nr := by rw [ki_nat]; have := hz.1; have := hz.2; omega
      have ea : ad r.toNatClampNeg = R := Option.some.inj ((yw_at J hnr h hr).1.symm.trans eR)
      refine ⟨ad, h.1, fun q hq => ?_, h.2.2⟩
      obtain ⟨b1, b2, b3, b4, b5, b6⟩ := h.2.1 q hq
      refine ⟨b1, ?_, b3, b4, b5, b6⟩
      show va_up (xi u 166) R v (ad q) = upd w.2.1 r.toNatClampNeg v q
      by_cases cq : q = r.toNatClampNeg
      · rw [cq, ea, va_up_self, w_updS]
      · rw [w_updN cq, va_up_ne]
        · exact b2
        · intro eq
          rw [← ea] at eq
          have a1 := (h.2.1 _ hr).1
          rw [← eq, b1] at a1
          omega
  · obtain ⟨hz, rfl⟩ := h
    unfold wz_dam
    rw [if_neg hz]
    exact Yw_bump V
end
section
/-! a reach that is made -/
def wz_reach (n l c j : Int32) (s : sz_T) (w : wt_T) : wt_T := if s.1.1 = 10 ∨ n < -1 ∨ s.1.1 ≤ n ∨ l < 1 ∨ 12 < l ∨ c < 1 ∨ 20 < c ∨ j < 0 ∨ ¬ j ≤ 1000 then w else (upd w.1 s.1.1.toNatClampNeg n, w.2)
theorem vw_reach90 {s : sz_T} {g κ : Nat → Nat} {B m n : Nat} {σ : kx_S} {ad : Nat → Nat} {w : wt_T} {nx ln cr jm : Int32} {bw : Option Nat} {Q : Int32 → kx_S → Prop} (J : yJ_ s g κ B m σ) (hn : s.1.1.toInt = (n : Int)) (ok : w_ok n w) (h : yw_ ad n w (g 0) σ) (hb : (bw = none ∧ nx = -1) ∨ ∃ q : Nat, nx.toInt = (q : Int) ∧ q < n ∧ bw = some (ad q)) (kk : ∀ r u, Yw_ (n + 1) (upd w.1 n nx, w.2) (g 0) u → Q r u) : vX11_reach_90 Q (g 0) ln cr jm bw σ := by
  unfold vX11_reach_90
  intro _ p hp hz σ27 e27 _ a30 e30 _
  subst e27
  have g0p : g 0 ≠ p := fun e => by have := yg0 J; rw [e, hp] at this; exact absurd this (by decide)
  have g1p : g 1 ≠ p := fun e => by have := (yg1 J).2.1; rw [e, hp] at this; exact absurd this (by decide)
  have q1 : a30 = g 1 := by
    have e : xr (xnew σ p 10) 208 (g 0) = xr σ 208 (g 0) := va_up_ne _ _ g0p
    rw [e, (yg1 J).1] at e30
    exact (Option.some.inj e30).symm
  subst q1
  unfold vJx4a65c_size_8abf5
  intro _
  have e18 : xi (xnew σ p 10) 18 (g 1) = s.1.1 := (va_up_ne _ _ g1p).trans (congrArg (fun p => p.1) J.2.2.2.2.1)
  rw [e18]
  unfold vX8_init
  intro _ σ2 e2 σ4 e4 σ6 e6 _ p9 hp9 _ σ12 e12
  unfold vJx4a65c_init_da8c8 vJxc12de_init_da8c8 vJxa1e45_init_da8c8
  intro _ σ3 e3 _ σ5 e5 _ σ16 e16 j
  subst e2
  subst e4
  have t6 : xt σ6 = va_up (xt σ) p 10 := by rw [e6]; rfl
  obtain ⟨⟨t1, t2⟩, h1, h2, h3⟩ := h
  have nep : ∀ r, r < n → ad r ≠ p := fun r hr e => by have := t2 r hr; rw [e, hp] at this; exact absurd this (by decide)
  have Y6 : yw_ (va_up ad n p) (n + 1) (upd w.1 n nx, w.2) (g 0) σ6 := by
    refine ⟨⟨fun R hR => ?_, fun r hr => ?_⟩, fun r hr => ?_, ?_, ?_⟩
    · rw [t6] at hR
      by_cases c : R = p
      · exact ⟨n, by omega, by rw [va_up_self]; exact c⟩
      · rw [va_up_ne _ _ c] at hR
        obtain ⟨r, r1, r2⟩ := t1 R hR
        exact ⟨r, by omega, by rw [va_up_ne _ _ (by omega)]; exact r2⟩
    · rw [t6]
      by_cases c : r = n
      · rw [c, va_up_self, va_up_self]
      · have hr' : r < n := by omega
        rw [va_up_ne ad _ c, va_up_ne _ _ (nep r hr')]
        exact t2 r hr'
    · rw [e6]
      by_cases c : r = n
      · subst c
        rw [va_up_self]
        obtain ⟨z1, z2, z3, z4⟩ := ok.2 r (Nat.le_refl r)
        refine ⟨?_, ?_, ?_, ?_, ?_, ?_⟩
        · show (va_up (va_up (xi σ 160) p 0) p s.1.1 p).toInt = _
          rw [va_up_self]
          exact hn
        · exact (va_up_self (xi σ 166) p 0).trans z1.symm
        · exact (va_up_self (xi σ 167) p 0).trans z2.symm
        · exact (va_up_self (xi σ 169) p 0).trans z3.symm
        · exact (va_up_self (xi σ 170) p 0).trans z4.symm
        · show (va_up (va_up (xr σ 161) p none) p bw p = none ∧ upd w.1 r nx r = -1) ∨ ∃ q : Nat, (upd w.1 r nx r).toInt = (q : Int) ∧ q < r ∧ va_up (va_up (xr σ 161) p none) p bw p = some (va_up ad r p q)
          rw [va_up_self, w_updS]
          rcases hb with ⟨b1, b2⟩ | ⟨q, b1, b2, b3⟩
          · exact .inl ⟨b1, b2⟩
          · exact .inr ⟨q, b1, b2, by rw [va_up_ne _ _ (by omega)]; exact b3⟩
      · have hr' : r < n := by omega
        have ne := nep r hr'
        rw [va_up_ne ad _ c]
        obtain ⟨b1, b2, b3, b4, b5, b6⟩ := h1 r hr'
        refine ⟨?_, (va_up_ne _ _ ne).trans b2, (va_up_ne _ _ ne).trans b3, (va_up_ne _ _ ne).trans b4, (va_up_ne _ _ ne).trans b5, ?_⟩
        · show (va_up (va_up (xi σ 160) p 0) p s.1.1 (ad r)).toInt = _
          rw [va_up_ne _ _ ne, va_up_ne _ _ ne]
          exact b1
        · show (va_up (va_up (xr σ 161) p none) p bw (ad r) = none ∧ upd w.1 n nx r = -1) ∨ ∃ q : Nat, (upd w.1 n nx r).toInt = (q : Int) ∧ q < r ∧ va_up (va_up (xr σ 161) p none) p bw (ad r) = some (va_up ad n p q)
          rw [va_up_ne _ _ ne, va_up_ne _ _ ne, w_updN c]
          rcases b6 with b | ⟨q, d1, d2, d3⟩
          · exact .inl b
          · exact .inr ⟨q, d1, d2, by rw [va_up_ne _ _ (by omega)]; exact d3⟩
    · rw [e6]
      exact (va_up_ne _ _ g0p).trans h2
    · rw [e6]
      exact (va_up_ne _ _ g0p).trans h3
  have tL : xt σ6 (g 0) ≠ 0 := by rw [t6, va_up_ne _ _ g0p, yg0 J]; decide
  have W := wf_fw (L := g 0) (σ := σ6) tL (W := [16, 17, 163, 1101]) (by decide)
  have f1 := (W _ wf_refl).2.2.2.2.2.2.1 1 (by decide) p9 hp9
  rw [← e12] at f1
  have f2 := ((W _ f1).1 16 (by decide)).1 p9 0
  rw [← e3] at f2
  have f3 := ((W _ f2).1 17 (by decide)).2.1 p9 (some (xz σ3))
  rw [← e5] at f3
  have f4 := ((W _ f3).1 163 (by decide)).2.1 p (some p9)
  rw [← e16] at f4
  have Y16 := yw_wf Y6 f4
  have tL16 : xt σ16 (g 0) ≠ 0 := by rw [f4.1 _ tL]; exact tL
  have hQ : ∀ r u, wf_ (g 0) σ16 u → Q r u := fun r u i => kk r u ⟨_, yw_wf Y16 i⟩
  exact jfX11_reach_117 (I := wf_ (g 0) σ16) (wf_fw tL16 (by decide)) (k148 := vX11_reach_148 Q) (fun _ _ _ i => jfX11_reach_148 (I := wf_ (g 0) σ16) (wf_fw tL16 (by decide)) hQ _ _ _ i) hQ j _ _ _ _ _ _ wf_refl
theorem rv_reach {k : Nat} {s : sz_T} {L O : Nat} {σ : kx_S} {nx ln cr jm : Int32} {nr : Nat} {w : wt_T} (hk : k < 600) (Z : yZ_ k s L O σ) (hnr : s.1.1.toInt = (nr : Int)) (ok : w_ok nr w) (V : Yw_ nr w L σ) : wX11_reach L nx ln cr jm σ (fun r u => qz_ k L O (z_reach nx ln cr jm s) r u ∧ Yw_ (z_reach nx ln cr jm s).2.2.1.1.toNatClampNeg (wz_reach nx ln cr jm s w) L u) := by
  have R0 := rx_reach (nx := nx) (ln := ln) (cr := cr) (jm := jm) hk Z
  obtain ⟨g, κ, B, n, eg, eO, J, hn, hB⟩ := Z
  subst eg
  subst eO
  obtain ⟨ad, h⟩ := V
  have G1 := yg1 J
  have ids := (yG_idx J).1
  have b10 := J.2.2.2.2.2.2.2.1
  rw [ids] at b10
  have en : s.1.1.toNatClampNeg = nr := by rw [ki_nat]; omega
  have z10 : (10 : Int32).toInt = 10 := by decide
  have z12 : (12 : Int32).toInt = 12 := by decide
  have z20 : (20 : Int32).toInt = 20 := by decide
  have z1000 : (1000 : Int32).toInt = 1000 := by decide
  refine jcX11_reach (Q' := fun _ u => Yw_ (z_reach nx ln cr jm s).2.2.1.1.toNatClampNeg (wz_reach nx ln cr jm s w) (g 0) u) (fun _ _ a b => ⟨a, b⟩) _ _ _ _ _ _ R0 ?_
  have no : (s.1.1 = 10 ∨ nx < -1 ∨ s.1.1 ≤ nx ∨ ln < 1 ∨ 12 < ln ∨ cr < 1 ∨ 20 < cr ∨ jm < 0 ∨ ¬ jm ≤ 1000) → Yw_ (z_reach nx ln cr jm s).2.2.1.1.toNatClampNeg (wz_reach nx ln cr jm s w) (g 0) σ := fun c => by
    rw [show z_reach nx ln cr jm s = (0, -1, s) from if_pos c, show wz_reach nx ln cr jm s w = w from if_pos c]
    show Yw_ s.1.1.toNatClampNeg w (g 0) σ
    rw [en]
    exact ⟨ad, h⟩
  unfold vX11_reach
  intro _ a38 e38 _
  have q1 : a38 = g 1 := Option.some.inj (e38.symm.trans G1.1)
  subst q1
  unfold vJx4a65c_size_8abf5
  intro _
  rw [ids]
  obtain ⟨u, eu, dd⟩ := ki_dec2E (a := s.1.1) (by omega)
  refine ⟨fun c => no (.inl ?_), fun c _ a45 e45 _ _ => ?_⟩
  · rw [ki_le, z10] at c
    exact ki_eq.2 (by rw [z10]; omega)
  have q2 : a45 = g 1 := Option.some.inj (e45.symm.trans G1.1)
  subst q2
  rw [ki_le, z10] at c
  rw [ids]
  show vX11_isWithin _ _ (s.1.1 - 1) _ _
  rw [← eu]
  refine vy_within (fun d => ⟨fun x => absurd rfl x, fun _ => no (.inr ?_)⟩) (fun c1 c2 => ⟨fun _ => ?_, fun x => absurd x (by decide)⟩)
  · rw [ki_zm] at d
    rw [ki_lt, ki_zm, ki_le]
    by_cases q : nx.toInt < -1
    · exact .inl q
    · exact .inr (.inl (by omega))
  rw [ki_zm] at c1
  refine vy_within (fun d => ⟨fun _ => no (.inr (.inr (.inr ?_))), fun x => absurd rfl x⟩) (fun c3 c4 => ⟨fun x => absurd x (by decide), fun _ => ?_⟩)
  · rw [ki_z1, z12] at d
    rw [ki_lt (b := 1), ki_z1, ki_lt (b := ln), z12]
    by_cases q : ln.toInt < 1
    · exact .inl q
    · exact .inr (.inl (by omega))
  rw [ki_z1] at c3
  rw [z12] at c4
  refine vy_within (fun d => ⟨fun _ => no (.inr (.inr (.inr (.inr (.inr ?_))))), fun x => absurd rfl x⟩) (fun c5 c6 => ⟨fun x => absurd x (by decide), fun _ => ?_⟩)
  · rw [ki_z1, z20] at d
    rw [ki_lt (b := 1), ki_z1, ki_lt (b := cr), z20]
    by_cases q : cr.toInt < 1
    · exact .inl q
    · exact .inr (.inl (by omega))
  rw [ki_z1] at c5
  rw [z20] at c6
  refine vy_within (fun d => ⟨fun x => absurd rfl x, fun _ => no (.inr (.inr (.inr (.inr (.inr (.inr (.inr ?_)))))))⟩) (fun c7 c8 => ⟨fun _ => ?_, fun x => absurd x (by decide)⟩)
  · rw [ki_z0, z1000] at d
    rw [ki_lt, ki_z0, ki_le, z1000]
    by_cases q : jm.toInt < 0
    · exact .inl q
    · exact .inr (by omega)
  rw [ki_z0] at c7
  rw [z1000] at c8
  have hz : ¬ (s.1.1 = 10 ∨ nx < -1 ∨ s.1.1 ≤ nx ∨ ln < 1 ∨ 12 < ln ∨ cr < 1 ∨ 20 < cr ∨ jm < 0 ∨ ¬ jm ≤ 1000) := by
    intro h
    rw [ki_lt, ki_le, ki_lt, ki_lt, ki_lt, ki_lt, ki_lt, ki_le, ki_zm, ki_z1, z12, z20, ki_z0, z1000] at h
    rcases h with h | h
    · have h' := congrArg Int32.toInt h
      rw [z10] at h'
      omega
    · omega
  have e1 : (s.1.1 + 1).toNatClampNeg = nr + 1 := by
    obtain ⟨v, ev, vv⟩ := ki_incE (a := s.1.1) (by omega) (by omega)
    rw [← ev, ki_nat]
    omega
  have kk : ∀ (r : Int32) (u : kx_S), Yw_ (nr + 1) (upd w.1 nr nx, w.2) (g 0) u → Yw_ (z_reach nx ln cr jm s).2.2.1.1.toNatClampNeg (wz_reach nx ln cr jm s w) (g 0) u := fun r u y => by
    rw [show z_reach nx ln cr jm s = (0, s.1.1, ((s.1.1 + 1, s.1.2), s.2)) from if_neg hz, show wz_reach nx ln cr jm s w = (upd w.1 s.1.1.toNatClampNeg nx, w.2) from if_neg hz]
    show Yw_ (s.1.1 + 1).toNatClampNeg (upd w.1 s.1.1.toNatClampNeg nx, w.2) (g 0) u
    rw [e1, en]
    exact y
  refine ⟨fun q => ?_, fun q _ a64 e64 _ => ?_⟩
  · rw [ki_lt, ki_z0] at q
    exact vw_reach90 J hnr ok h (.inl ⟨rfl, ki_eq.2 (by rw [ki_zm]; omega)⟩) kk
  · rw [ki_lt, ki_z0] at q
    have q3 : a64 = g 1 := Option.some.inj (e64.symm.trans G1.1)
    subst q3
    refine vy_get (fun _ _ => ?_)
    intro a69 e69 _
    have hq : nx.toNatClampNeg < nr := by rw [ki_nat]; omega
    rw [(yw_at J hnr h hq).1] at e69
    have e69 := Option.some.inj e69
    exact vw_reach90 J hnr ok h (.inr ⟨nx.toNatClampNeg, by rw [ki_nat]; omega, hq, by rw [e69]⟩) kk
/-! what is asked of the waters -/
def zq_waters (a : Int32) : Int32 := if a = 0 then 0 else if a = 1 then 0 else 1
def zv_waters (a : Int32) (w : wt_T) : Int64 := if a = 0 then w.2.2.2.2.2.1 else w.2.2.2.2.2.2
theorem rv_waters {k : Nat} {s : sz_T} {L O : Nat} {σ : kx_S} {a : Int32} {nr : Nat} {w : wt_T} (hk : k < 600) (Z : yZ_ k s L O σ) (V : Yw_ nr w L σ) : wX11_waters L a σ (fun r u => qu_ k L O s r u ∧ Yw_ nr w L u ∧ zq_waters a = 0 ∧ r = zv_waters a w) (fun e u => qf_ k L O s e u ∧ Yw_ nr w L u ∧ zq_waters a = 1) := by
  refine jcX11_waters (Q' := fun r u => Yw_ nr w L u ∧ zq_waters a = 0 ∧ r = zv_waters a w) (QX' := fun _ u => Yw_ nr w L u ∧ zq_waters a = 1) (fun _ _ a b => ⟨a, b⟩) (fun _ _ a b => ⟨a, b⟩) _ _ _ (rx_waters (w := a) hk Z) ?_
  have V0 := V
  obtain ⟨ad, h⟩ := V
  unfold vX11_waters
  rintro v1 rfl
  refine ⟨fun c _ => ⟨V0, ?_, ?_⟩, fun c _ => ⟨V0, ?_, ?_⟩, fun c d _ => ⟨Yw_bump V0, ?_⟩⟩
  · exact if_pos c
  · rw [h.2.2.1]
    exact (if_pos c).symm
  · rw [c]
    decide
  · rw [h.2.2.2, c]
    exact (if_neg (by decide)).symm
  · unfold zq_waters
    rw [if_neg c, if_neg d]
end
section
/-! water among the reference's calls -/
abbrev mw_ (μ u : km_S) : Prop := wm_ u = wm_ μ ∧ km_i u 3 = km_i μ 3
theorem wm_gw {μ : km_S} {W : List Nat} (hW : ∀ f ∈ W, f ≠ 3 ∧ f ≠ 11 ∧ f ≠ 12 ∧ f ≠ 13 ∧ f ≠ 18 ∧ f ≠ 19 ∧ f ≠ 24 ∧ f ≠ 25) : gw_ (mw_ μ) W := by
  intro u h f hf
  obtain ⟨n3, n11, n12, n13, n18, n19, n24, n25⟩ := hW f hf
  refine ⟨fun v => ⟨h.1, ?_⟩, fun i v => ⟨?_, h.2⟩, fun v => ⟨?_, h.2⟩, fun i v => h⟩
  · show upd u.1 f v 3 = _
    exact (w_updN (Ne.symm n3)).trans h.2
  · rw [← h.1]
    have e : ∀ g, g ≠ f → km_a (km_sa u f i v) g = km_a u g := fun g hg => by
      show (if g = f then upd (u.2.1 f) i v else u.2.1 g) = u.2.1 g
      exact if_neg hg
    unfold wm_
    rw [e 13 (Ne.symm n13), e 24 (Ne.symm n24), e 25 (Ne.symm n25), e 18 (Ne.symm n18), e 19 (Ne.symm n19)]
    rfl
  · rw [← h.1]
    unfold wm_
    have e : ∀ g, g ≠ f → km_l (km_sl u f v) g = km_l u g := fun g hg => pk_uLn hg
    rw [e 11 (Ne.symm n11), e 12 (Ne.symm n12)]
    rfl
theorem vm_isReach {r : Int32} {μ : km_S} {Q : Int32 → km_S → Prop} (h0 : ¬ (0 ≤ r.toInt ∧ r.toInt < (km_i μ 3).toInt) → Q 0 μ) (h1 : 0 ≤ r.toInt → r.toInt < (km_i μ 3).toInt → Q 1 μ) : vX12_isReach r μ Q := by
  have z : (0 : Int32).toInt = 0 := by decide
  refine ⟨fun c => h0 ?_, fun c => ⟨fun d => h0 ?_, fun d => h1 ?_ ?_⟩⟩
  all_goals (simp only [ki_lt, ki_le, z] at *; omega)
theorem rm_dam {r v : Int32} {μ : km_S} (I : im_ μ) : wX12_dam r v μ (fun x u => pz_ (z_dam r v (sm_ μ)) x u ∧ wm_ u = wz_dam r v (sm_ μ) (wm_ μ) ∧ km_i u 3 = km_i μ 3) := by
  refine jcX12_dam (Q' := fun _ u => wm_ u = wz_dam r v (sm_ μ) (wm_ μ) ∧ km_i u 3 = km_i μ 3) (fun _ _ a b => ⟨a, b⟩) _ _ _ (rz_dam I) ?_
  unfold vX12_dam
  rintro μ1 rfl
  refine vm_isReach (fun c => ⟨fun x => absurd rfl x, fun _ => ?_⟩) (fun c1 c2 => ⟨fun _ => ⟨fun d => ?_, fun d => ⟨fun e => ?_, fun e => ?_⟩⟩, fun x => absurd x (by decide)⟩)
  · rintro μ2 rfl
    refine ⟨?_, rfl⟩
    rw [show wz_dam r v (sm_ μ) (wm_ μ) = wm_ μ from if_neg c]
    rfl
  · refine ⟨?_, rfl⟩
    rw [show wz_dam r v (sm_ μ) (wm_ μ) = wm_ μ from (if_pos (show z_is r (sm_ μ) from ⟨c1, c2⟩)).trans (if_pos (.inl d))]
    rfl
  · rintro - μ8 rfl - μ10 rfl
    refine ⟨?_, rfl⟩
    rw [show wz_dam r v (sm_ μ) (wm_ μ) = ((wm_ μ).1, upd (wm_ μ).2.1 r.toNatClampNeg v, (wm_ μ).2.2) from (if_pos (show z_is r (sm_ μ) from ⟨c1, c2⟩)).trans (if_neg (fun h => h.elim d (fun h => h e)))]
    rfl
  · refine ⟨?_, rfl⟩
    rw [show wz_dam r v (sm_ μ) (wm_ μ) = wm_ μ from (if_pos (show z_is r (sm_ μ) from ⟨c1, c2⟩)).trans (if_pos (.inr e))]
    rfl
theorem rm_reach {n l c j : Int32} {μ : km_S} (I : im_ μ) : wX12_reach n l c j μ (fun x u => pz_ (z_reach n l c j (sm_ μ)) x u ∧ wm_ u = wz_reach n l c j (sm_ μ) (wm_ μ)) := by
  refine jcX12_reach (Q' := fun _ u => wm_ u = wz_reach n l c j (sm_ μ) (wm_ μ)) (fun _ _ a b => ⟨a, b⟩) _ _ _ _ _ (rz_reach I) ?_
  unfold vX12_reach
  rintro μ1 rfl
  have no : ((sm_ μ).1.1 = 10 ∨ n < -1 ∨ (sm_ μ).1.1 ≤ n ∨ l < 1 ∨ 12 < l ∨ c < 1 ∨ 20 < c ∨ j < 0 ∨ ¬ j ≤ 1000) → wm_ (km_si μ 1 0) = wz_reach n l c j (sm_ μ) (wm_ μ) := fun h => (if_pos h).symm
  refine ⟨fun h => no (.inl h), fun h1 => ⟨fun h => no (.inr (.inl h)), fun h2 => ⟨fun h => no (.inr (.inr (.inl h))), fun h3 => ⟨fun h => no (.inr (.inr (.inr (.inl h)))), fun h4 => ⟨fun h => no (.inr (.inr (.inr (.inr (.inl h))))), fun h5 => ⟨fun h => no (.inr (.inr (.inr (.inr (.inr (.inl h)))))), fun h6 => ⟨fun h => no (.inr (.inr (.inr (.inr (.inr (.inr (.inl h))))))), fun h7 => ⟨fun h => no (.inr (.inr (.inr (.inr (.inr (.inr (.inr (.inl h)))))))), fun h8 => ⟨fun h => ?_, fun h => no (.inr (.inr (.inr (.inr (.inr (.inr (.inr (.inr h)))))))) ⟩⟩⟩⟩⟩⟩⟩⟩⟩
  rintro - μ12 rfl - μ14 rfl - μ16 rfl - μ18 rfl μ19 rfl
  have hz : ¬ ((sm_ μ).1.1 = 10 ∨ n < -1 ∨ (sm_ μ).1.1 ≤ n ∨ l < 1 ∨ 12 < l ∨ c < 1 ∨ 20 < c ∨ j < 0 ∨ ¬ j ≤ 1000) := by
    rintro (a | a | a | a | a | a | a | a | a)
    · exact h1 a
    · exact h2 a
    · exact h3 a
    · exact h4 a
    · exact h5 a
    · exact h6 a
    · exact h7 a
    · exact h8 a
    · exact a h
  rw [show wz_reach n l c j (sm_ μ) (wm_ μ) = (upd (wm_ μ).1 (sm_ μ).1.1.toNatClampNeg n, (wm_ μ).2) from if_neg hz]
  rfl
theorem rm_waters {a : Int32} {μ : km_S} (I : im_ μ) : wX12_waters a μ (fun x u => pl_ (sm_ μ) x u ∧ mw_ μ u ∧ km_i u 1 = zq_waters a ∧ (zq_waters a = 0 → x = zv_waters a (wm_ μ))) := by
  refine jcX12_waters (Q' := fun x u => mw_ μ u ∧ km_i u 1 = zq_waters a ∧ (zq_waters a = 0 → x = zv_waters a (wm_ μ))) (fun _ _ a b => ⟨a, b⟩) _ _ (rz_waters I) ?_
  unfold vX12_waters
  rintro μ1 rfl
  refine ⟨fun c => ⟨fun d => ?_, fun d => ⟨⟨rfl, rfl⟩, ?_, fun _ => ?_⟩⟩, fun c => ⟨⟨rfl, rfl⟩, ?_, fun _ => ?_⟩⟩
  · rintro μ2 rfl
    have e : zq_waters a = 1 := (if_neg c).trans (if_neg d)
    refine ⟨⟨rfl, rfl⟩, e.symm, fun h => ?_⟩
    rw [e] at h
    exact absurd h (by decide)
  · exact ((if_neg c).trans (if_pos d)).symm
  · exact (if_neg c).symm
  · exact (if_pos c).symm
  · exact (if_pos c).symm
theorem rm_hours {n : Int32} {μ : km_S} {nr : Nat} (I : im_ μ) (hnr : (km_i μ 3).toInt = (nr : Int)) (ok : w_ok nr (wm_ μ)) : wX12_hours n μ (fun x u => pz_ (z_hours n (sm_ μ)) x u ∧ wm_ u = wz_hours n (sm_ μ) nr (wm_ μ) ∧ km_i u 3 = km_i μ 3) := by
  intro μ1 e1
  have I1 : im_ μ1 := by rw [e1]; exact im_code 0 I
  have s1 : sm_ μ1 = sm_ μ := by rw [e1]; rfl
  have k1 : km_i μ1 1 = 0 := by rw [e1]; rfl
  have w1 : wm_ μ1 = wm_ μ := by rw [e1]; rfl
  have j1 : km_i μ1 3 = km_i μ 3 := by rw [e1]; rfl
  rw [← s1, ← w1, ← j1]
  rw [← w1] at ok
  rw [← j1] at hnr
  have no : (n < 0 ∨ 200 < n ∨ ¬ (km_i μ1 2 + n ≤ 20000)) → wX12_hours_28 (fun x u => pz_ (z_hours n (sm_ μ1)) x u ∧ wm_ u = wz_hours n (sm_ μ1) nr (wm_ μ1) ∧ km_i u 3 = km_i μ1 3) μ1 := fun c μ2 e2 => by
    subst e2
    refine ⟨⟨im_code 1 I1, ?_⟩, ?_, rfl⟩
    · unfold z_hours
      rw [if_pos (show n < 0 ∨ 200 < n ∨ ¬ ((sm_ μ1).1.2.2.2.2.2 + n ≤ 20000) from c)]
      rfl
    · rw [show wz_hours n (sm_ μ1) nr (wm_ μ1) = wm_ μ1 from if_pos c]
      rfl
  refine ⟨fun c => no (.inl c), fun c => ⟨fun d => no (.inr (.inl d)), fun d => ⟨fun e => ⟨202, ?_⟩, fun e => no (.inr (.inr e))⟩⟩⟩
  have hno : ¬ (n < 0 ∨ 200 < n ∨ ¬ (km_i μ1 2 + n ≤ 20000)) := fun h => h.elim c (fun h => h.elim d (fun h => h e))
  rw [show z_hours n (sm_ μ1) = (0, km_i μ1 2 + n, zn_ (sm_ μ1) (km_i μ1 2 + n)) from if_neg hno, show wz_hours n (sm_ μ1) nr (wm_ μ1) = w_hours nr (sm_ μ1).2.1 (sm_ μ1).2.2.1 (sm_ μ1).2.2.2.1 n.toNatClampNeg (wm_ μ1) from if_neg hno]
  clear no hno
  generalize hq : (fun (x : Int32) (u : km_S) => pz_ (0, km_i μ1 2 + n, zn_ (sm_ μ1) (km_i μ1 2 + n)) x u ∧ wm_ u = w_hours nr (sm_ μ1).2.1 (sm_ μ1).2.2.1 (sm_ μ1).2.2.2.1 n.toNatClampNeg (wm_ μ1) ∧ km_i u 3 = km_i μ1 3) = QQ
  rw [ki_lt, ki_z0] at c
  have z200 : (200 : Int32).toInt = 200 := by decide
  rw [ki_lt, z200] at d
  have h10 : nr ≤ 10 := by have := I1.1.1; omega
  have L : ∀ (k : Nat) (i : Int32) (M : km_S), 0 ≤ i.toInt → i.toInt ≤ n.toInt → n.toInt - i.toInt < (k : Int) → ih_ (zn_ (sm_ μ1) (km_i μ1 2 + i), 0) M → wm_ M = w_hours nr (sm_ μ1).2.1 (sm_ μ1).2.2.1 (sm_ μ1).2.2.2.1 i.toNatClampNeg (wm_ μ1) → km_i M 3 = km_i μ1 3 → wX12_hours_35 (wX12_hours_76 QQ) QQ k n i M := by
    intro k
    induction k with
    | zero => intro i M h1 h2 h3; omega
    | succ k ih =>
      intro i M h1 h2 h3 H HW H3
      refine ⟨fun q => ?_, fun q => ?_⟩
      · rw [ki_le] at q
        have en : i = n := ki_eq.2 (by omega)
        rw [en] at H HW
        show QQ (km_i M 2) M
        rw [← hq]
        refine ⟨⟨H.1, ?_⟩, HW, H3⟩
        have h1 := congrArg Prod.fst H.2
        have h2 := congrArg Prod.snd H.2
        have h3 : km_i M 2 = km_i μ1 2 + n := congrArg (fun s : sz_T => s.1.2.2.2.2.2) h1
        exact Prod.ext h2 (Prod.ext h3 h1)
      · rw [ki_le] at q
        have ii := ki_inc (a := i) (by omega) (by omega)
        have hs : sm_ M = zn_ (sm_ μ1) (km_i μ1 2 + i) := congrArg Prod.fst H.2
        have d21 : km_a M 21 = (sm_ μ1).2.1 := congrArg (fun s : sz_T => s.2.1) hs
        have d26 : km_a M 26 = (sm_ μ1).2.2.1 := congrArg (fun s : sz_T => s.2.2.1) hs
        have d17 : km_a M 17 = (sm_ μ1).2.2.2.1 := congrArg (fun s : sz_T => s.2.2.2.1) hs
        have okM : w_ok nr (wm_ M) := by rw [HW]; exact w_hours_ok _ _ ok
        refine jcX12_waterGoes (Q := fun u => ih_ (zn_ (sm_ μ1) (km_i μ1 2 + i), 0) u) (Q' := fun u => wm_ u = w_hour nr (sm_ μ1).2.1 (sm_ μ1).2.2.1 (sm_ μ1).2.2.2.1 (wm_ M)) (fun μ4 H4 W4 => ?_) _ (rz_waterGoes H (fun _ h => h)) (vm_water (by rw [H3]; exact hnr) h10 okM (fun u h => by rw [h, d21, d26, d17]))
        have e4 : km_i μ4 3 = km_i μ1 3 := congrArg (fun s : sz_T × Int32 => s.1.1.1) H4.2
        refine jcX12_move (Q := fun u => ih_ (zn_ (sm_ μ1) (km_i μ1 2 + i), 0) u) (Q' := mw_ μ4) (fun μ5 H5 W5 => ?_) _ (rz_move H4 (fun _ h => h)) (jfX12_move (wm_gw (by decide)) (fun _ h => h) _ ⟨rfl, rfl⟩)
        refine jcX12_jams (Q := fun u => ih_ (zn_ (sm_ μ1) (km_i μ1 2 + i), 0) u) (Q' := mw_ μ5) (fun μ6 H6 W6 => ?_) _ (rz_jams H5 (fun _ h => h)) (jfX12_jams (wm_gw (by decide)) (fun _ h => h) _ ⟨rfl, rfl⟩)
        refine jcX12_older (Q := fun u => ih_ (zn_ (sm_ μ1) (km_i μ1 2 + i), 0) u) (Q' := mw_ μ6) (fun μ7 H7 W7 => ?_) _ (rz_older H6 (fun _ h => h)) (jfX12_older (wm_gw (by decide)) (fun _ h => h) _ ⟨rfl, rfl⟩)
        refine jcX12_mills (Q := fun u => ih_ (zn_ (sm_ μ1) (km_i μ1 2 + i), 0) u) (Q' := mw_ μ7) (fun μ8 H8 W8 μ9 e9 w ew => ?_) _ (rz_mills H7 (fun _ h => h)) (jfX12_mills (wm_gw (by decide)) (fun _ h => h) _ ⟨rfl, rfl⟩)
        rw [ew]
        have et : (i + 1).toNatClampNeg = i.toNatClampNeg + 1 := by rw [ki_nat, ki_nat]; omega
        refine ih (i + 1) μ9 (by omega) (by omega) (by omega) ?_ ?_ ?_
        · rw [e9]
          refine ⟨H8.1, ?_⟩
          have h1 := congrArg Prod.fst H8.2
          have h2 := congrArg Prod.snd H8.2
          have h3 : km_i μ8 2 = km_i μ1 2 + i := congrArg (fun s : sz_T => s.1.2.2.2.2.2) h1
          refine Prod.ext ?_ h2
          show zn_ (sm_ μ8) (km_i μ8 2 + 1) = _
          rw [h3, Int32.add_assoc]
          have h4 : sm_ μ8 = zn_ (sm_ μ1) (km_i μ1 2 + i) := h1
          exact Eq.trans (congrArg (fun s : sz_T => zn_ s (km_i μ1 2 + (i + 1))) h4) rfl
        · rw [e9, et, w_hours_snoc, ← HW, ← W4]
          exact W8.1.trans (W7.1.trans (W6.1.trans W5.1))
        · rw [e9]
          exact W8.2.trans (W7.2.trans (W6.2.trans (W5.2.trans e4)))
  refine L 202 0 μ1 (by decide) (by rw [ki_z0]; omega) (by rw [ki_z0]; omega) ⟨I1, Prod.ext ?_ k1⟩ rfl rfl
  show sm_ μ1 = zn_ (sm_ μ1) (km_i μ1 2 + 0)
  rw [Int32.add_zero]
  rfl
end
section
/-! water, a row a call -/
def nr_ (μ : km_S) : Nat := (km_i μ 3).toNatClampNeg
def lv_ (x : Nat) (σ : kx_S) (μ : km_S) : Prop := w_ok (nr_ μ) (wm_ μ) ∧ Yw_ (nr_ μ) (wm_ μ) x σ
def tw_ (n : Nat) (w : wt_T) (u : km_S) : Prop := ∀ x σ, Yw_ n w x σ → lv_ x σ u
theorem nr_int {μ : km_S} (I : im_ μ) : (sm_ μ).1.1.toInt = (nr_ μ : Int) := by
  have := I.1.1
  show (km_i μ 3).toInt = ((km_i μ 3).toNatClampNeg : Int)
  rw [ki_nat]
  omega
theorem tw_of {n : Nat} {w : wt_T} {u : km_S} (e1 : nr_ u = n) (e2 : wm_ u = w) (ok : w_ok n w) : tw_ n w u := by
  intro x σ y
  unfold lv_
  rw [e1, e2]
  exact ⟨ok, y⟩
theorem tw_same {μ u : km_S} (ok : w_ok (nr_ μ) (wm_ μ)) (h : mw_ μ u) : tw_ (nr_ μ) (wm_ μ) u := tw_of (by unfold nr_; rw [h.2]) h.1 ok
theorem yZ_tag {k : Nat} {s : sz_T} {L O : Nat} {σ : kx_S} (Z : yZ_ k s L O σ) : xt σ L ≠ 0 := by
  obtain ⟨g, κ, B, n, e, eO, J, _⟩ := Z
  rw [← e, yg0 J]
  decide
theorem gw_true {W : List Nat} : gw_ (fun _ => True) W := fun _ _ _ _ => ⟨fun _ => trivial, fun _ _ => trivial, fun _ => trivial, fun _ _ => trivial⟩
theorem w_ok_dam {r v : Int32} {s : sz_T} {n : Nat} {w : wt_T} (h : w_ok n w) (hn : s.1.1.toInt = (n : Int)) : w_ok n (wz_dam r v s w) := by
  unfold wz_dam
  split
  · next hz =>
    split
    · exact h
    · refine ⟨h.1, fun q hq => ?_⟩
      obtain ⟨a, b⟩ := h.2 q hq
      refine ⟨?_, b⟩
      refine (w_updN ?_).trans a
      have h1 := hz.1
      have h2 := hz.2
      rw [ki_nat]
      omega
  · exact h
theorem w_ok_hours {m : Int32} {s : sz_T} {n : Nat} {w : wt_T} (h : w_ok n w) : w_ok n (wz_hours m s n w) := by
  unfold wz_hours
  split
  · exact h
  · exact w_hours_ok _ _ h
theorem w_ok_reach {a b c d : Int32} {s : sz_T} {n : Nat} {w : wt_T} (h : w_ok n w) (hn : s.1.1.toInt = (n : Int)) (h10 : n ≤ 10) : w_ok (z_reach a b c d s).2.2.1.1.toNatClampNeg (wz_reach a b c d s w) := by
  unfold z_reach wz_reach
  split
  · show w_ok s.1.1.toNatClampNeg w
    rw [show s.1.1.toNatClampNeg = n by rw [ki_nat]; omega]
    exact h
  · next hz =>
    have en : s.1.1.toNatClampNeg = n := by rw [ki_nat]; omega
    have e1 : (s.1.1 + 1).toNatClampNeg = n + 1 := by
      obtain ⟨v, ev, vv⟩ := ki_incE (a := s.1.1) (by omega) (by omega)
      rw [← ev, ki_nat]
      omega
    show w_ok (s.1.1 + 1).toNatClampNeg (upd w.1 s.1.1.toNatClampNeg a, w.2)
    rw [e1, en]
    refine ⟨fun r hr => ?_, fun r hr => h.2 r (by omega)⟩
    show -1 ≤ (upd w.1 n a r).toInt ∧ (upd w.1 n a r).toInt < (r : Int)
    by_cases c : r = n
    · rw [c, w_updS]
      have h1 : ¬ a < -1 := fun q => hz (.inr (.inl q))
      have h2 : ¬ s.1.1 ≤ a := fun q => hz (.inr (.inr (.inl q)))
      rw [ki_lt, ki_zm] at h1
      rw [ki_le] at h2
      omega
    · rw [w_updN c]
      exact h.1 r (by omega)

set_option maxRecDepth 100000 in
theorem lk_reach {k : Nat} {L O : Nat} {σ : kx_S} {μ : km_S} {p0 p1 p2 p3 : Int32} (hk : k < 600) (Z : yZ_ k (sm_ μ) L O σ) (I : im_ μ) (V : lv_ L σ μ) : wX11_reach L p0 p1 p2 p3 σ (fun r u => qz_ k L O (z_reach p0 p1 p2 p3 (sm_ μ)) r u ∧ Yw_ (z_reach p0 p1 p2 p3 (sm_ μ)).2.2.1.1.toNatClampNeg (wz_reach p0 p1 p2 p3 (sm_ μ) (wm_ μ)) L u) := rv_reach hk Z (nr_int I) V.1 V.2
set_option maxRecDepth 100000 in
theorem lr_reach {μ : km_S} {p0 p1 p2 p3 : Int32} {x : Nat} {σ : kx_S} (I : im_ μ) (V : lv_ x σ μ) : wX12_reach p0 p1 p2 p3 μ (fun r u => pz_ (z_reach p0 p1 p2 p3 (sm_ μ)) r u ∧ tw_ (z_reach p0 p1 p2 p3 (sm_ μ)).2.2.1.1.toNatClampNeg (wz_reach p0 p1 p2 p3 (sm_ μ) (wm_ μ)) u) := jcX12_reach (Q' := fun _ _ => True) (fun _ u a _ => ⟨a.1, tw_of (by show (sm_ u).1.1.toNatClampNeg = _; rw [← a.1.2]) a.2 (w_ok_reach V.1 (nr_int I) (by have := I.1.1; have := nr_int I; have e : (sm_ μ).1.1 = km_i μ 3 := rfl; rw [e] at this; omega))⟩) _ _ _ _ _ (rm_reach I) (jfX12_reach (I := fun _ => True) gw_true (fun _ _ _ => trivial) _ _ _ _ _ trivial)
set_option maxRecDepth 100000 in
theorem lk_dam {k : Nat} {L O : Nat} {σ : kx_S} {μ : km_S} {p0 p1 : Int32} (hk : k < 600) (Z : yZ_ k (sm_ μ) L O σ) (I : im_ μ) (V : lv_ L σ μ) : wX11_dam L p0 p1 σ (fun r u => qz_ k L O (z_dam p0 p1 (sm_ μ)) r u ∧ Yw_ (nr_ μ) (wz_dam p0 p1 (sm_ μ) (wm_ μ)) L u) (fun e u => qe_ k L O pz_N (z_dam p0 p1 (sm_ μ)) e u ∧ Yw_ (nr_ μ) (wz_dam p0 p1 (sm_ μ) (wm_ μ)) L u) := rv_dam hk Z (nr_int I) V.2
set_option maxRecDepth 100000 in
theorem lr_dam {μ : km_S} {p0 p1 : Int32} {x : Nat} {σ : kx_S} (I : im_ μ) (V : lv_ x σ μ) : wX12_dam p0 p1 μ (fun r u => pz_ (z_dam p0 p1 (sm_ μ)) r u ∧ tw_ (nr_ μ) (wz_dam p0 p1 (sm_ μ) (wm_ μ)) u) := jcX12_dam (Q' := fun _ _ => True) (fun _ _ a _ => ⟨a.1, tw_of (by unfold nr_; rw [a.2.2]) a.2.1 (w_ok_dam V.1 (nr_int I))⟩) _ _ _ (rm_dam I) (jfX12_dam (I := fun _ => True) gw_true (fun _ _ _ => trivial) _ _ _ trivial)
set_option maxRecDepth 100000 in
theorem lk_gate {k : Nat} {L O : Nat} {σ : kx_S} {μ : km_S} {p0 p1 : Int32} (hk : k < 600) (Z : yZ_ k (sm_ μ) L O σ) (I : im_ μ) (V : lv_ L σ μ) : wX11_gate L p0 p1 σ (fun r u => qz_ k L O (z_gate p0 p1 (sm_ μ)) r u ∧ Yw_ (nr_ μ) (wm_ μ) L u) (fun e u => qe_ k L O pz_N (z_gate p0 p1 (sm_ μ)) e u ∧ Yw_ (nr_ μ) (wm_ μ) L u) := jcX11_gate (Q' := fun _ u => wf_ L σ u) (QX' := fun _ u => wf_ L σ u) (fun _ _ a b => ⟨a, Yw_wf V.2 b⟩) (fun _ _ a b => ⟨a, Yw_wf V.2 b⟩) _ _ _ _ (rx_gate hk Z) (jfX11_gate (I := wf_ L σ) (wf_fw (yZ_tag Z) (by decide)) (fun _ _ i => i) (fun _ _ i => i) _ _ _ _ wf_refl)
set_option maxRecDepth 100000 in
theorem lr_gate {μ : km_S} {p0 p1 : Int32} {x : Nat} {σ : kx_S} (I : im_ μ) (V : lv_ x σ μ) : wX12_gate p0 p1 μ (fun r u => pz_ (z_gate p0 p1 (sm_ μ)) r u ∧ tw_ (nr_ μ) (wm_ μ) u) := jcX12_gate (Q' := fun _ u => mw_ μ u) (fun _ _ a b => ⟨a, tw_same V.1 b⟩) _ _ _ (rz_gate I) (jfX12_gate (I := mw_ μ) (wm_gw (by decide)) (fun _ _ i => i) _ _ _ ⟨rfl, rfl⟩)
set_option maxRecDepth 100000 in
theorem lk_melt {k : Nat} {L O : Nat} {σ : kx_S} {μ : km_S} {p0 p1 : Int32} (hk : k < 600) (Z : yZ_ k (sm_ μ) L O σ) (I : im_ μ) (V : lv_ L σ μ) : wX11_melt L p0 p1 σ (fun r u => qz_ k L O (z_melt p0 p1 (sm_ μ)) r u ∧ Yw_ (nr_ μ) (wm_ μ) L u) (fun e u => qe_ k L O pz_N (z_melt p0 p1 (sm_ μ)) e u ∧ Yw_ (nr_ μ) (wm_ μ) L u) := jcX11_melt (Q' := fun _ u => wf_ L σ u) (QX' := fun _ u => wf_ L σ u) (fun _ _ a b => ⟨a, Yw_wf V.2 b⟩) (fun _ _ a b => ⟨a, Yw_wf V.2 b⟩) _ _ _ _ (rx_melt hk Z) (jfX11_melt (I := wf_ L σ) (wf_fw (yZ_tag Z) (by decide)) (fun _ _ i => i) (fun _ _ i => i) _ _ _ _ wf_refl)
set_option maxRecDepth 100000 in
theorem lr_melt {μ : km_S} {p0 p1 : Int32} {x : Nat} {σ : kx_S} (I : im_ μ) (V : lv_ x σ μ) : wX12_melt p0 p1 μ (fun r u => pz_ (z_melt p0 p1 (sm_ μ)) r u ∧ tw_ (nr_ μ) (wm_ μ) u) := jcX12_melt (Q' := fun _ u => mw_ μ u) (fun _ _ a b => ⟨a, tw_same V.1 b⟩) _ _ _ (rz_melt I) (jfX12_melt (I := mw_ μ) (wm_gw (by decide)) (fun _ _ i => i) _ _ _ ⟨rfl, rfl⟩)
set_option maxRecDepth 100000 in
theorem lk_boom {k : Nat} {L O : Nat} {σ : kx_S} {μ : km_S} {p0 p1 p2 : Int32} (hk : k < 600) (Z : yZ_ k (sm_ μ) L O σ) (I : im_ μ) (V : lv_ L σ μ) : wX11_boom L p0 p1 p2 σ (fun r u => qz_ k L O (z_boom p0 p2 (sm_ μ)) r u ∧ Yw_ (nr_ μ) (wm_ μ) L u) (fun e u => qe_ k L O pz_N (z_boom p0 p2 (sm_ μ)) e u ∧ Yw_ (nr_ μ) (wm_ μ) L u) := jcX11_boom (Q' := fun _ u => wf_ L σ u) (QX' := fun _ u => wf_ L σ u) (fun _ _ a b => ⟨a, Yw_wf V.2 b⟩) (fun _ _ a b => ⟨a, Yw_wf V.2 b⟩) _ _ _ _ _ (rx_boom hk Z) (jfX11_boom (I := wf_ L σ) (wf_fw (yZ_tag Z) (by decide)) (fun _ _ i => i) (fun _ _ i => i) _ _ _ _ _ wf_refl)
set_option maxRecDepth 100000 in
theorem lr_boom {μ : km_S} {p0 p1 p2 : Int32} {x : Nat} {σ : kx_S} (I : im_ μ) (V : lv_ x σ μ) : wX12_boom p0 p1 p2 μ (fun r u => pz_ (z_boom p0 p2 (sm_ μ)) r u ∧ tw_ (nr_ μ) (wm_ μ) u) := jcX12_boom (Q' := fun _ u => mw_ μ u) (fun _ _ a b => ⟨a, tw_same V.1 b⟩) _ _ _ _ (rz_boom I) (jfX12_boom (I := mw_ μ) (wm_gw (by decide)) (fun _ _ i => i) _ _ _ _ ⟨rfl, rfl⟩)
set_option maxRecDepth 100000 in
theorem lk_watch {k : Nat} {L O : Nat} {σ : kx_S} {μ : km_S} {p0 p1 : Int32} (hv : p1 = 0 ∨ p1 = 1) (hk : k < 600) (Z : yZ_ k (sm_ μ) L O σ) (I : im_ μ) (V : lv_ L σ μ) : wX11_watch L p0 p1 σ (fun r u => qz_ k L O (z_watch p0 p1 (sm_ μ)) r u ∧ Yw_ (nr_ μ) (wm_ μ) L u) (fun e u => qe_ k L O pz_N (z_watch p0 p1 (sm_ μ)) e u ∧ Yw_ (nr_ μ) (wm_ μ) L u) := jcX11_watch (Q' := fun _ u => wf_ L σ u) (QX' := fun _ u => wf_ L σ u) (fun _ _ a b => ⟨a, Yw_wf V.2 b⟩) (fun _ _ a b => ⟨a, Yw_wf V.2 b⟩) _ _ _ _ (rx_watch hv hk Z) (jfX11_watch (I := wf_ L σ) (wf_fw (yZ_tag Z) (by decide)) (fun _ _ i => i) (fun _ _ i => i) _ _ _ _ wf_refl)
set_option maxRecDepth 100000 in
theorem lr_watch {μ : km_S} {p0 p1 : Int32} (hv : p1 = 0 ∨ p1 = 1) {x : Nat} {σ : kx_S} (I : im_ μ) (V : lv_ x σ μ) : wX12_watch p0 p1 μ (fun r u => pz_ (z_watch p0 p1 (sm_ μ)) r u ∧ tw_ (nr_ μ) (wm_ μ) u) := jcX12_watch (Q' := fun _ u => mw_ μ u) (fun _ _ a b => ⟨a, tw_same V.1 b⟩) _ _ _ (rz_watch hv I) (jfX12_watch (I := mw_ μ) (wm_gw (by decide)) (fun _ _ i => i) _ _ _ ⟨rfl, rfl⟩)
set_option maxRecDepth 100000 in
theorem lk_crew {k : Nat} {L O : Nat} {σ : kx_S} {μ : km_S} {p0 p1 : Int32} (hk : k < 600) (Z : yZ_ k (sm_ μ) L O σ) (I : im_ μ) (V : lv_ L σ μ) : wX11_crew L p0 p1 σ (fun r u => qz_ k L O (z_crew p0 p1 (sm_ μ)) r u ∧ Yw_ (nr_ μ) (wm_ μ) L u) (fun e u => qe_ k L O pz_N (z_crew p0 p1 (sm_ μ)) e u ∧ Yw_ (nr_ μ) (wm_ μ) L u) := jcX11_crew (Q' := fun _ u => wf_ L σ u) (QX' := fun _ u => wf_ L σ u) (fun _ _ a b => ⟨a, Yw_wf V.2 b⟩) (fun _ _ a b => ⟨a, Yw_wf V.2 b⟩) _ _ _ _ (rx_crew hk Z) (jfX11_crew (I := wf_ L σ) (wf_fw (yZ_tag Z) (by decide)) (fun _ _ i => i) (fun _ _ i => i) _ _ _ _ wf_refl)
set_option maxRecDepth 100000 in
theorem lr_crew {μ : km_S} {p0 p1 : Int32} {x : Nat} {σ : kx_S} (I : im_ μ) (V : lv_ x σ μ) : wX12_crew p0 p1 μ (fun r u => pz_ (z_crew p0 p1 (sm_ μ)) r u ∧ tw_ (nr_ μ) (wm_ μ) u) := jcX12_crew (Q' := fun _ u => mw_ μ u) (fun _ _ a b => ⟨a, tw_same V.1 b⟩) _ _ _ (rz_crew I) (jfX12_crew (I := mw_ μ) (wm_gw (by decide)) (fun _ _ i => i) _ _ _ ⟨rfl, rfl⟩)
set_option maxRecDepth 100000 in
theorem lk_feed {k : Nat} {L O : Nat} {σ : kx_S} {μ : km_S} {p0 p1 p2 p3 p4 : Int32} (hk : k < 600) (Z : yZ_ k (sm_ μ) L O σ) (I : im_ μ) (V : lv_ L σ μ) : wX11_feed L p0 p1 p2 p3 p4 σ (fun r u => qz_ k L O (z_feed (sm_ μ)) r u ∧ Yw_ (nr_ μ) (wm_ μ) L u) := jcX11_feed (Q' := fun _ u => wf_ L σ u) (fun _ _ a b => ⟨a, Yw_wf V.2 b⟩) _ _ _ _ _ _ _ (rx_feed hk Z) (jfX11_feed (I := wf_ L σ) (wf_fw (yZ_tag Z) (by decide)) (fun _ _ i => i) _ _ _ _ _ _ _ wf_refl)
set_option maxRecDepth 100000 in
theorem lr_feed {μ : km_S} {p0 p1 p2 p3 p4 : Int32} {x : Nat} {σ : kx_S} (I : im_ μ) (V : lv_ x σ μ) : wX12_feed p0 p1 p2 p3 p4 μ (fun r u => pz_ (z_feed (sm_ μ)) r u ∧ tw_ (nr_ μ) (wm_ μ) u) := jcX12_feed (Q' := fun _ u => mw_ μ u) (fun _ _ a b => ⟨a, tw_same V.1 b⟩) _ _ _ _ _ _ (rz_feed I) (jfX12_feed (I := mw_ μ) (wm_gw (by decide)) (fun _ _ i => i) _ _ _ _ _ _ ⟨rfl, rfl⟩)
set_option maxRecDepth 100000 in
theorem lk_law {k : Nat} {L O : Nat} {σ : kx_S} {μ : km_S} {p0 p1 : Int32} (hk : k < 600) (Z : yZ_ k (sm_ μ) L O σ) (I : im_ μ) (V : lv_ L σ μ) : wX11_law L p0 p1 σ (fun r u => qy_ k L O (z_law p0 p1 (sm_ μ)) r u ∧ Yw_ (nr_ μ) (wm_ μ) L u) (fun e u => qx_ k L O (z_law p0 p1 (sm_ μ)) e u ∧ Yw_ (nr_ μ) (wm_ μ) L u) := jcX11_law (Q' := fun _ u => wf_ L σ u) (QX' := fun _ u => wf_ L σ u) (fun _ _ a b => ⟨a, Yw_wf V.2 b⟩) (fun _ _ a b => ⟨a, Yw_wf V.2 b⟩) _ _ _ _ (rx_law hk Z) (jfX11_law (I := wf_ L σ) (wf_fw (yZ_tag Z) (by decide)) (fun _ _ i => i) (fun _ _ i => i) _ _ _ _ wf_refl)
set_option maxRecDepth 100000 in
theorem lr_law {μ : km_S} {p0 p1 : Int32} {x : Nat} {σ : kx_S} (I : im_ μ) (V : lv_ x σ μ) : wX12_law p0 p1 μ (fun r u => py_ (z_law p0 p1 (sm_ μ)) r u ∧ tw_ (nr_ μ) (wm_ μ) u) := jcX12_law (Q' := fun _ u => mw_ μ u) (fun _ _ a b => ⟨a, tw_same V.1 b⟩) _ _ _ (rz_law I) (jfX12_law (I := mw_ μ) (wm_gw (by decide)) (fun _ _ i => i) _ _ _ ⟨rfl, rfl⟩)
set_option maxRecDepth 100000 in
theorem lk_fault {k : Nat} {L O : Nat} {σ : kx_S} {μ : km_S} (hk : k < 600) (Z : yZ_ k (sm_ μ) L O σ) (I : im_ μ) (V : lv_ L σ μ) : wX11_fault L σ (fun r u => qu_ k L O (sm_ μ) r u ∧ Yw_ (nr_ μ) (wm_ μ) L u) := jcX11_fault (Q' := fun _ u => wf_ L σ u) (fun _ _ a b => ⟨a, Yw_wf V.2 b⟩) _ _ (rx_fault hk Z) (jfX11_fault (I := wf_ L σ) (wf_fw (yZ_tag Z) (by decide)) (fun _ _ i => i) _ _ wf_refl)
set_option maxRecDepth 100000 in
theorem lr_fault {μ : km_S} {x : Nat} {σ : kx_S} (I : im_ μ) (V : lv_ x σ μ) : wX12_fault μ (fun r u => pu_ (sm_ μ) r u ∧ tw_ (nr_ μ) (wm_ μ) u) := jcX12_fault (Q' := fun _ u => mw_ μ u) (fun _ _ a b => ⟨a, tw_same V.1 b⟩) _ (rz_fault I) (jfX12_fault (I := mw_ μ) (wm_gw (by decide)) (fun _ _ i => i) _ ⟨rfl, rfl⟩)
set_option maxRecDepth 100000 in
theorem lk_cut {k : Nat} {L O : Nat} {σ : kx_S} {μ : km_S} {p0 p1 p2 : Int32} (hk : k < 600) (Z : yZ_ k (sm_ μ) L O σ) (I : im_ μ) (V : lv_ L σ μ) : wX11_cut L p0 p1 p2 σ (fun r u => qz_ k L O (z_cut p0 p1 p2 (sm_ μ)) r u ∧ Yw_ (nr_ μ) (wm_ μ) L u) := jcX11_cut (Q' := fun _ u => wf_ L σ u) (fun _ _ a b => ⟨a, Yw_wf V.2 b⟩) _ _ _ _ _ (rx_cut hk Z) (jfX11_cut (I := wf_ L σ) (wf_fw (yZ_tag Z) (by decide)) (fun _ _ i => i) _ _ _ _ _ wf_refl)
set_option maxRecDepth 100000 in
theorem lr_cut {μ : km_S} {p0 p1 p2 : Int32} {x : Nat} {σ : kx_S} (I : im_ μ) (V : lv_ x σ μ) : wX12_cut p0 p1 p2 μ (fun r u => pz_ (z_cut p0 p1 p2 (sm_ μ)) r u ∧ tw_ (nr_ μ) (wm_ μ) u) := jcX12_cut (Q' := fun _ u => mw_ μ u) (fun _ _ a b => ⟨a, tw_same V.1 b⟩) _ _ _ _ (rz_cut I) (jfX12_cut (I := mw_ μ) (wm_gw (by decide)) (fun _ _ i => i) _ _ _ _ ⟨rfl, rfl⟩)
set_option maxRecDepth 100000 in
theorem lk_let {k : Nat} {L O : Nat} {σ : kx_S} {μ : km_S} {p0 p1 p2 : Int32} (hk : k < 600) (Z : yZ_ k (sm_ μ) L O σ) (I : im_ μ) (V : lv_ L σ μ) : wX11_let L p0 p1 p2 σ (fun r u => qu_ k L O (sm_ μ) r u ∧ Yw_ (nr_ μ) (wm_ μ) L u) (fun e u => qf_ k L O (sm_ μ) e u ∧ Yw_ (nr_ μ) (wm_ μ) L u) := jcX11_let (Q' := fun _ u => wf_ L σ u) (QX' := fun _ u => wf_ L σ u) (fun _ _ a b => ⟨a, Yw_wf V.2 b⟩) (fun _ _ a b => ⟨a, Yw_wf V.2 b⟩) _ _ _ _ _ (rx_let hk Z) (jfX11_let (I := wf_ L σ) (wf_fw (yZ_tag Z) (by decide)) (fun _ _ i => i) (fun _ _ i => i) _ _ _ _ _ wf_refl)
set_option maxRecDepth 100000 in
theorem lr_let {μ : km_S} {p0 p1 p2 : Int32} {x : Nat} {σ : kx_S} (I : im_ μ) (V : lv_ x σ μ) : wX12_let p0 p1 p2 μ (fun r u => pu_ (sm_ μ) r u ∧ tw_ (nr_ μ) (wm_ μ) u) := jcX12_let (Q' := fun _ u => mw_ μ u) (fun _ _ a b => ⟨a, tw_same V.1 b⟩) _ _ _ _ (rz_let I) (jfX12_let (I := mw_ μ) (wm_gw (by decide)) (fun _ _ i => i) _ _ _ _ ⟨rfl, rfl⟩)
set_option maxRecDepth 100000 in
theorem lk_hours {k : Nat} {L O : Nat} {σ : kx_S} {μ : km_S} {p0 : Int32} (hk : k < 600) (Z : yZ_ k (sm_ μ) L O σ) (I : im_ μ) (V : lv_ L σ μ) : wX11_hours L p0 σ (fun r u => qz_ k L O (z_hours p0 (sm_ μ)) r u ∧ Yw_ (nr_ μ) (wz_hours p0 (sm_ μ) (nr_ μ) (wm_ μ)) L u) (fun e u => qe_ k L O pz_I (z_hours p0 (sm_ μ)) e u ∧ Yw_ (nr_ μ) (wz_hours p0 (sm_ μ) (nr_ μ) (wm_ μ)) L u) := rv_hours hk Z (nr_int I) V.2
set_option maxRecDepth 100000 in
theorem lr_hours {μ : km_S} {p0 : Int32} {x : Nat} {σ : kx_S} (I : im_ μ) (V : lv_ x σ μ) : wX12_hours p0 μ (fun r u => pz_ (z_hours p0 (sm_ μ)) r u ∧ tw_ (nr_ μ) (wz_hours p0 (sm_ μ) (nr_ μ) (wm_ μ)) u) := jcX12_hours (Q' := fun _ _ => True) (fun _ _ a _ => ⟨a.1, tw_of (by unfold nr_; rw [a.2.2]) a.2.1 (w_ok_hours V.1)⟩) _ _ (rm_hours I (nr_int I) V.1) (jfX12_hours (I := fun _ => True) gw_true (fun _ _ _ => trivial) _ _ trivial)
set_option maxRecDepth 100000 in
theorem lk_order {k : Nat} {L O : Nat} {σ : kx_S} {μ : km_S} {p0 p1 p2 p3 : Int32} (hk : k < 600) (Z : yZ_ k (sm_ μ) L O σ) (I : im_ μ) (V : lv_ L σ μ) : wX11_order L p0 p1 p2 p3 σ (fun r u => qz_ k L O (z_order p0 p1 p2 p3 (sm_ μ)) r u ∧ Yw_ (nr_ μ) (wm_ μ) L u) (fun e u => qe_ k L O pz_N (z_order p0 p1 p2 p3 (sm_ μ)) e u ∧ Yw_ (nr_ μ) (wm_ μ) L u) := jcX11_order (Q' := fun _ u => wf_ L σ u) (QX' := fun _ u => wf_ L σ u) (fun _ _ a b => ⟨a, Yw_wf V.2 b⟩) (fun _ _ a b => ⟨a, Yw_wf V.2 b⟩) _ _ _ _ _ _ (rx_order hk Z) (jfX11_order (I := wf_ L σ) (wf_fw (yZ_tag Z) (by decide)) (fun _ _ i => i) (fun _ _ i => i) _ _ _ _ _ _ wf_refl)
set_option maxRecDepth 100000 in
theorem lr_order {μ : km_S} {p0 p1 p2 p3 : Int32} {x : Nat} {σ : kx_S} (I : im_ μ) (V : lv_ x σ μ) : wX12_order p0 p1 p2 p3 μ (fun r u => pz_ (z_order p0 p1 p2 p3 (sm_ μ)) r u ∧ tw_ (nr_ μ) (wm_ μ) u) := jcX12_order (Q' := fun _ u => mw_ μ u) (fun _ _ a b => ⟨a, tw_same V.1 b⟩) _ _ _ _ _ (rz_order I) (jfX12_order (I := mw_ μ) (wm_gw (by decide)) (fun _ _ i => i) _ _ _ _ _ ⟨rfl, rfl⟩)
set_option maxRecDepth 100000 in
theorem lk_wants {k : Nat} {L O : Nat} {σ : kx_S} {μ : km_S} {p0 : Int32} (hk : k < 600) (Z : yZ_ k (sm_ μ) L O σ) (I : im_ μ) (V : lv_ L σ μ) : wX11_wants L p0 σ (fun r u => qu_ k L O (sm_ μ) r u ∧ Yw_ (nr_ μ) (wm_ μ) L u) (fun e u => qf_ k L O (sm_ μ) e u ∧ Yw_ (nr_ μ) (wm_ μ) L u) := jcX11_wants (Q' := fun _ u => wf_ L σ u) (QX' := fun _ u => wf_ L σ u) (fun _ _ a b => ⟨a, Yw_wf V.2 b⟩) (fun _ _ a b => ⟨a, Yw_wf V.2 b⟩) _ _ _ (rx_wants hk Z) (jfX11_wants (I := wf_ L σ) (wf_fw (yZ_tag Z) (by decide)) (fun _ _ i => i) (fun _ _ i => i) _ _ _ wf_refl)
set_option maxRecDepth 100000 in
theorem lr_wants {μ : km_S} {p0 : Int32} {x : Nat} {σ : kx_S} (I : im_ μ) (V : lv_ x σ μ) : wX12_wants p0 μ (fun r u => pu_ (sm_ μ) r u ∧ tw_ (nr_ μ) (wm_ μ) u) := jcX12_wants (Q' := fun _ u => mw_ μ u) (fun _ _ a b => ⟨a, tw_same V.1 b⟩) _ _ (rz_wants I) (jfX12_wants (I := mw_ μ) (wm_gw (by decide)) (fun _ _ i => i) _ _ ⟨rfl, rfl⟩)
set_option maxRecDepth 100000 in
theorem lk_log {k : Nat} {L O : Nat} {σ : kx_S} {μ : km_S} {p0 p1 : Int32} (hk : k < 600) (Z : yZ_ k (sm_ μ) L O σ) (I : im_ μ) (V : lv_ L σ μ) : wX11_log L p0 p1 σ (fun r u => qu_ k L O (sm_ μ) r u ∧ Yw_ (nr_ μ) (wm_ μ) L u) (fun e u => qf_ k L O (sm_ μ) e u ∧ Yw_ (nr_ μ) (wm_ μ) L u) := jcX11_log (Q' := fun _ u => wf_ L σ u) (QX' := fun _ u => wf_ L σ u) (fun _ _ a b => ⟨a, Yw_wf V.2 b⟩) (fun _ _ a b => ⟨a, Yw_wf V.2 b⟩) _ _ _ _ (rx_log hk Z) (jfX11_log (I := wf_ L σ) (wf_fw (yZ_tag Z) (by decide)) (fun _ _ i => i) (fun _ _ i => i) _ _ _ _ wf_refl)
set_option maxRecDepth 100000 in
theorem lr_log {μ : km_S} {p0 p1 : Int32} {x : Nat} {σ : kx_S} (I : im_ μ) (V : lv_ x σ μ) : wX12_log p0 p1 μ (fun r u => pu_ (sm_ μ) r u ∧ tw_ (nr_ μ) (wm_ μ) u) := jcX12_log (Q' := fun _ u => mw_ μ u) (fun _ _ a b => ⟨a, tw_same V.1 b⟩) _ _ _ (rz_log I) (jfX12_log (I := mw_ μ) (wm_gw (by decide)) (fun _ _ i => i) _ _ _ ⟨rfl, rfl⟩)
set_option maxRecDepth 100000 in
theorem lk_cell {k : Nat} {L O : Nat} {σ : kx_S} {μ : km_S} {p0 p1 p2 : Int32} (hk : k < 600) (Z : yZ_ k (sm_ μ) L O σ) (I : im_ μ) (V : lv_ L σ μ) : wX11_cell L p0 p1 p2 σ (fun r u => qu_ k L O (sm_ μ) r u ∧ Yw_ (nr_ μ) (wm_ μ) L u) (fun e u => qf_ k L O (sm_ μ) e u ∧ Yw_ (nr_ μ) (wm_ μ) L u) := jcX11_cell (Q' := fun _ u => wf_ L σ u) (QX' := fun _ u => wf_ L σ u) (fun _ _ a b => ⟨a, Yw_wf V.2 b⟩) (fun _ _ a b => ⟨a, Yw_wf V.2 b⟩) _ _ _ _ _ (rx_cell hk Z) (jfX11_cell (I := wf_ L σ) (wf_fw (yZ_tag Z) (by decide)) (fun _ _ i => i) (fun _ _ i => i) _ _ _ _ _ wf_refl)
set_option maxRecDepth 100000 in
theorem lr_cell {μ : km_S} {p0 p1 p2 : Int32} {x : Nat} {σ : kx_S} (I : im_ μ) (V : lv_ x σ μ) : wX12_cell p0 p1 p2 μ (fun r u => pu_ (sm_ μ) r u ∧ tw_ (nr_ μ) (wm_ μ) u) := jcX12_cell (Q' := fun _ u => mw_ μ u) (fun _ _ a b => ⟨a, tw_same V.1 b⟩) _ _ _ _ (rz_cell I) (jfX12_cell (I := mw_ μ) (wm_gw (by decide)) (fun _ _ i => i) _ _ _ _ ⟨rfl, rfl⟩)
set_option maxRecDepth 100000 in
theorem lk_inCell {k : Nat} {L O : Nat} {σ : kx_S} {μ : km_S} {p0 p1 p2 : Int32} (hk : k < 600) (Z : yZ_ k (sm_ μ) L O σ) (I : im_ μ) (V : lv_ L σ μ) : wX11_inCell L p0 p1 p2 σ (fun r u => qu_ k L O (sm_ μ) r u ∧ Yw_ (nr_ μ) (wm_ μ) L u) (fun e u => qf_ k L O (sm_ μ) e u ∧ Yw_ (nr_ μ) (wm_ μ) L u) := jcX11_inCell (Q' := fun _ u => wf_ L σ u) (QX' := fun _ u => wf_ L σ u) (fun _ _ a b => ⟨a, Yw_wf V.2 b⟩) (fun _ _ a b => ⟨a, Yw_wf V.2 b⟩) _ _ _ _ _ (rx_inCell hk Z) (jfX11_inCell (I := wf_ L σ) (wf_fw (yZ_tag Z) (by decide)) (fun _ _ i => i) (fun _ _ i => i) _ _ _ _ _ wf_refl)
set_option maxRecDepth 100000 in
theorem lr_inCell {μ : km_S} {p0 p1 p2 : Int32} {x : Nat} {σ : kx_S} (I : im_ μ) (V : lv_ x σ μ) : wX12_inCell p0 p1 p2 μ (fun r u => pu_ (sm_ μ) r u ∧ tw_ (nr_ μ) (wm_ μ) u) := jcX12_inCell (Q' := fun _ u => mw_ μ u) (fun _ _ a b => ⟨a, tw_same V.1 b⟩) _ _ _ _ (rz_inCell I) (jfX12_inCell (I := mw_ μ) (wm_gw (by decide)) (fun _ _ i => i) _ _ _ _ ⟨rfl, rfl⟩)
set_option maxRecDepth 100000 in
theorem lk_heap {k : Nat} {L O : Nat} {σ : kx_S} {μ : km_S} {p0 p1 : Int32} (hk : k < 600) (Z : yZ_ k (sm_ μ) L O σ) (I : im_ μ) (V : lv_ L σ μ) : wX11_heap L p0 p1 σ (fun r u => qu_ k L O (sm_ μ) r u ∧ Yw_ (nr_ μ) (wm_ μ) L u) (fun e u => qf_ k L O (sm_ μ) e u ∧ Yw_ (nr_ μ) (wm_ μ) L u) := jcX11_heap (Q' := fun _ u => wf_ L σ u) (QX' := fun _ u => wf_ L σ u) (fun _ _ a b => ⟨a, Yw_wf V.2 b⟩) (fun _ _ a b => ⟨a, Yw_wf V.2 b⟩) _ _ _ _ (rx_heap hk Z) (jfX11_heap (I := wf_ L σ) (wf_fw (yZ_tag Z) (by decide)) (fun _ _ i => i) (fun _ _ i => i) _ _ _ _ wf_refl)
set_option maxRecDepth 100000 in
theorem lr_heap {μ : km_S} {p0 p1 : Int32} {x : Nat} {σ : kx_S} (I : im_ μ) (V : lv_ x σ μ) : wX12_heap p0 p1 μ (fun r u => pu_ (sm_ μ) r u ∧ tw_ (nr_ μ) (wm_ μ) u) := jcX12_heap (Q' := fun _ u => mw_ μ u) (fun _ _ a b => ⟨a, tw_same V.1 b⟩) _ _ _ (rz_heap I) (jfX12_heap (I := mw_ μ) (wm_gw (by decide)) (fun _ _ i => i) _ _ _ ⟨rfl, rfl⟩)
set_option maxRecDepth 100000 in
theorem lk_water {k : Nat} {L O : Nat} {σ : kx_S} {μ : km_S} {p0 p1 : Int32} (hk : k < 600) (Z : yZ_ k (sm_ μ) L O σ) (I : im_ μ) (V : lv_ L σ μ) : wX11_water L p0 p1 σ (fun r u => qu_ k L O (sm_ μ) r u ∧ Yw_ (nr_ μ) (wm_ μ) L u) (fun e u => qf_ k L O (sm_ μ) e u ∧ Yw_ (nr_ μ) (wm_ μ) L u) := jcX11_water (Q' := fun _ u => wf_ L σ u) (QX' := fun _ u => wf_ L σ u) (fun _ _ a b => ⟨a, Yw_wf V.2 b⟩) (fun _ _ a b => ⟨a, Yw_wf V.2 b⟩) _ _ _ _ (rx_water hk Z) (jfX11_water (I := wf_ L σ) (wf_fw (yZ_tag Z) (by decide)) (fun _ _ i => i) (fun _ _ i => i) _ _ _ _ wf_refl)
set_option maxRecDepth 100000 in
theorem lr_water {μ : km_S} {p0 p1 : Int32} {x : Nat} {σ : kx_S} (I : im_ μ) (V : lv_ x σ μ) : wX12_water p0 p1 μ (fun r u => pu_ (sm_ μ) r u ∧ tw_ (nr_ μ) (wm_ μ) u) := jcX12_water (Q' := fun _ u => mw_ μ u) (fun _ _ a b => ⟨a, tw_same V.1 b⟩) _ _ _ (rz_water I) (jfX12_water (I := mw_ μ) (wm_gw (by decide)) (fun _ _ i => i) _ _ _ ⟨rfl, rfl⟩)
set_option maxRecDepth 100000 in
theorem lk_waters {k : Nat} {L O : Nat} {σ : kx_S} {μ : km_S} {p0 : Int32} (hk : k < 600) (Z : yZ_ k (sm_ μ) L O σ) (I : im_ μ) (V : lv_ L σ μ) : wX11_waters L p0 σ (fun r u => qu_ k L O (sm_ μ) r u ∧ Yw_ (nr_ μ) (wm_ μ) L u ∧ zq_waters p0 = 0 ∧ r = zv_waters p0 (wm_ μ)) (fun e u => qf_ k L O (sm_ μ) e u ∧ Yw_ (nr_ μ) (wm_ μ) L u ∧ zq_waters p0 = 1) := rv_waters hk Z V.2
set_option maxRecDepth 100000 in
theorem lr_waters {μ : km_S} {p0 : Int32} {x : Nat} {σ : kx_S} (I : im_ μ) (V : lv_ x σ μ) : wX12_waters p0 μ (fun r u => pl_ (sm_ μ) r u ∧ tw_ (nr_ μ) (wm_ μ) u ∧ km_i u 1 = zq_waters p0 ∧ (zq_waters p0 = 0 → r = zv_waters p0 (wm_ μ))) := jcX12_waters (Q' := fun _ _ => True) (fun _ _ a _ => ⟨a.1, tw_same V.1 a.2.1, a.2.2⟩) _ _ (rm_waters I) (jfX12_waters (I := fun _ => True) gw_true (fun _ _ _ => trivial) _ _ trivial)
set_option maxRecDepth 100000 in
theorem lk_board {k : Nat} {L O : Nat} {σ : kx_S} {μ : km_S} {p0 : Int32} (hk : k < 600) (Z : yZ_ k (sm_ μ) L O σ) (I : im_ μ) (V : lv_ L σ μ) : wX11_board L p0 σ (fun r u => qu_ k L O (sm_ μ) r u ∧ Yw_ (nr_ μ) (wm_ μ) L u) (fun e u => qf_ k L O (sm_ μ) e u ∧ Yw_ (nr_ μ) (wm_ μ) L u) := jcX11_board (Q' := fun _ u => wf_ L σ u) (QX' := fun _ u => wf_ L σ u) (fun _ _ a b => ⟨a, Yw_wf V.2 b⟩) (fun _ _ a b => ⟨a, Yw_wf V.2 b⟩) _ _ _ (rx_board hk Z) (jfX11_board (I := wf_ L σ) (wf_fw (yZ_tag Z) (by decide)) (fun _ _ i => i) (fun _ _ i => i) _ _ _ wf_refl)
set_option maxRecDepth 100000 in
theorem lr_board {μ : km_S} {p0 : Int32} {x : Nat} {σ : kx_S} (I : im_ μ) (V : lv_ x σ μ) : wX12_board p0 μ (fun r u => pu_ (sm_ μ) r u ∧ tw_ (nr_ μ) (wm_ μ) u) := jcX12_board (Q' := fun _ u => mw_ μ u) (fun _ _ a b => ⟨a, tw_same V.1 b⟩) _ _ (rz_board I) (jfX12_board (I := mw_ μ) (wm_gw (by decide)) (fun _ _ i => i) _ _ ⟨rfl, rfl⟩)
set_option maxRecDepth 100000 in
theorem lk_paid {k : Nat} {L O : Nat} {σ : kx_S} {μ : km_S} {p0 : Int32} (hk : k < 600) (Z : yZ_ k (sm_ μ) L O σ) (I : im_ μ) (V : lv_ L σ μ) : wX11_paid L p0 σ (fun r u => qu_ k L O (sm_ μ) r u ∧ Yw_ (nr_ μ) (wm_ μ) L u) (fun e u => qf_ k L O (sm_ μ) e u ∧ Yw_ (nr_ μ) (wm_ μ) L u) := jcX11_paid (Q' := fun _ u => wf_ L σ u) (QX' := fun _ u => wf_ L σ u) (fun _ _ a b => ⟨a, Yw_wf V.2 b⟩) (fun _ _ a b => ⟨a, Yw_wf V.2 b⟩) _ _ _ (rx_paid hk Z) (jfX11_paid (I := wf_ L σ) (wf_fw (yZ_tag Z) (by decide)) (fun _ _ i => i) (fun _ _ i => i) _ _ _ wf_refl)
set_option maxRecDepth 100000 in
theorem lr_paid {μ : km_S} {p0 : Int32} {x : Nat} {σ : kx_S} (I : im_ μ) (V : lv_ x σ μ) : wX12_paid p0 μ (fun r u => pl_ (sm_ μ) r u ∧ tw_ (nr_ μ) (wm_ μ) u) := jcX12_paid (Q' := fun _ u => mw_ μ u) (fun _ _ a b => ⟨a, tw_same V.1 b⟩) _ _ (rz_paid I) (jfX12_paid (I := mw_ μ) (wm_gw (by decide)) (fun _ _ i => i) _ _ ⟨rfl, rfl⟩)
set_option maxRecDepth 100000 in
theorem lk_count {k : Nat} {L O : Nat} {σ : kx_S} {μ : km_S} {p0 : Int32} (hk : k < 600) (Z : yZ_ k (sm_ μ) L O σ) (I : im_ μ) (V : lv_ L σ μ) : wX11_count L p0 σ (fun r u => qu_ k L O (sm_ μ) r u ∧ Yw_ (nr_ μ) (wm_ μ) L u) (fun e u => qf_ k L O (sm_ μ) e u ∧ Yw_ (nr_ μ) (wm_ μ) L u) := jcX11_count (Q' := fun _ u => wf_ L σ u) (QX' := fun _ u => wf_ L σ u) (fun _ _ a b => ⟨a, Yw_wf V.2 b⟩) (fun _ _ a b => ⟨a, Yw_wf V.2 b⟩) _ _ _ (rx_count hk Z) (jfX11_count (I := wf_ L σ) (wf_fw (yZ_tag Z) (by decide)) (fun _ _ i => i) (fun _ _ i => i) _ _ _ wf_refl)
set_option maxRecDepth 100000 in
theorem lr_count {μ : km_S} {p0 : Int32} {x : Nat} {σ : kx_S} (I : im_ μ) (V : lv_ x σ μ) : wX12_count p0 μ (fun r u => pu_ (sm_ μ) r u ∧ tw_ (nr_ μ) (wm_ μ) u) := jcX12_count (Q' := fun _ u => mw_ μ u) (fun _ _ a b => ⟨a, tw_same V.1 b⟩) _ _ (rz_count I) (jfX12_count (I := mw_ μ) (wm_gw (by decide)) (fun _ _ i => i) _ _ ⟨rfl, rfl⟩)
end
section
/-! tokens, told once for both -/
def t_sg (b : Int32) : Prop := b = 40 ∨ b = 41 ∨ b = 42 ∨ b = 43 ∨ b = 45 ∨ b = 47 ∨ b = 59 ∨ b = 60 ∨ b = 61
def t_kd (b : Int32) : Int32 := if b < 97 ∨ 122 < b then (if b < 48 ∨ 57 < b then (if b = -1 then 0 else if b = 10 ∨ b = 32 then 5 else if b = 40 ∨ b = 41 ∨ b = 42 ∨ b = 43 ∨ b = 45 ∨ b = 47 ∨ b = 59 ∨ b = 60 ∨ b = 61 then b else 4) else 2) else 1
def t_run (f : Nat → Int32) (k : Int32) : Nat → Nat → Nat
  | 0, p => p
  | m + 1, p => if t_kd (f p) = k then t_run f k m (p + 1) else p
def t_end (f : Nat → Int32) (n : Nat) (k : Int32) (p : Nat) : Nat := t_run f k (n - p) p
def t_by (f : Nat → Int32) (n p : Nat) : Int32 := if p < n then f p else -1
/-- kind, start, end -/
abbrev tk_T : Type := Int32 × Nat × Nat
def t_at (f : Nat → Int32) (n s : Nat) : tk_T := (t_kd (t_by f n s), s, if t_kd (t_by f n s) = 1 ∨ t_kd (t_by f n s) = 2 then t_end f n (t_kd (t_by f n s)) s else min (s + 1) n)
def t_tok (f : Nat → Int32) (n p : Nat) : tk_T := t_at f n (t_end f n 5 p)
theorem t_end_hi {f : Nat → Int32} {n : Nat} {k : Int32} {p : Nat} (h : n ≤ p) : t_end f n k p = p := by
  unfold t_end
  rw [show n - p = 0 by omega]
  rfl
theorem t_end_eq {f : Nat → Int32} {n : Nat} {k : Int32} {p : Nat} (h : p < n) (e : t_kd (f p) = k) : t_end f n k p = t_end f n k (p + 1) := by
  unfold t_end
  rw [show n - p = (n - (p + 1)) + 1 by omega]
  show (if t_kd (f p) = k then t_run f k (n - (p + 1)) (p + 1) else p) = _
  rw [if_pos e]
theorem t_end_ne {f : Nat → Int32} {n : Nat} {k : Int32} {p : Nat} (h : p < n) (e : ¬ t_kd (f p) = k) : t_end f n k p = p := by
  unfold t_end
  rw [show n - p = (n - (p + 1)) + 1 by omega]
  show (if t_kd (f p) = k then t_run f k (n - (p + 1)) (p + 1) else p) = _
  rw [if_neg e]
theorem t_run_ge {f : Nat → Int32} {k : Int32} : ∀ (m p : Nat), p ≤ t_run f k m p ∧ t_run f k m p ≤ p + m := by
  intro m
  induction m with
  | zero => intro p; exact ⟨Nat.le_refl p, Nat.le_refl p⟩
  | succ m ih =>
    intro p
    show p ≤ (if t_kd (f p) = k then t_run f k m (p + 1) else p) ∧ (if t_kd (f p) = k then t_run f k m (p + 1) else p) ≤ p + (m + 1)
    have := ih (p + 1)
    split <;> omega
theorem t_end_ge {f : Nat → Int32} {n : Nat} {k : Int32} {p : Nat} (h : p ≤ n) : p ≤ t_end f n k p ∧ t_end f n k p ≤ n := by
  have := t_run_ge (f := f) (k := k) (n - p) p
  unfold t_end
  omega
theorem t_kd28 {b : Int32} (h1 : b < 97 ∨ 122 < b) (h2 : b < 48 ∨ 57 < b) : t_kd b = if b = -1 then 0 else if b = 10 ∨ b = 32 then 5 else if b = 40 ∨ b = 41 ∨ b = 42 ∨ b = 43 ∨ b = 45 ∨ b = 47 ∨ b = 59 ∨ b = 60 ∨ b = 61 then b else 4 := by
  unfold t_kd
  rw [if_pos h1, if_pos h2]
theorem t_kd2 {b : Int32} (h1 : b < 97 ∨ 122 < b) (h2 : ¬ (b < 48 ∨ 57 < b)) : t_kd b = 2 := by
  unfold t_kd
  rw [if_pos h1, if_neg h2]
theorem t_kd1 {b : Int32} (h1 : ¬ (b < 97 ∨ 122 < b)) : t_kd b = 1 := by
  unfold t_kd
  rw [if_neg h1]
/-! the class's tokens -/
def ct_ (f : Nat → Int32) (n tk : Nat) (σ : kx_S) : Prop := (xi σ 193 tk).toInt = (n : Int) ∧ n ≤ 500 ∧ ∃ tp tb, xr σ 192 tk = some tp ∧ xr σ 176 tp = some tb ∧ xn σ tb = 500 ∧ ∀ i, i < n → xai σ tb i = f i
theorem vy_byteAt {f : Nat → Int32} {n tk p : Nat} {σ : kx_S} {i : Int32} {Q : Int32 → kx_S → Prop} (h : ct_ f n tk σ) (hp : i.toInt = (p : Int)) (kk : Q (t_by f n p) σ) : vX10_byteAt tk i σ Q := by
  obtain ⟨h1, h2, tp, tb, e1, e2, e3, e4⟩ := h
  have z : (0 : Int32).toInt = 0 := by decide
  have z5 : (nI 500).toInt = 500 := by decide
  unfold vX10_byteAt
  refine ⟨fun c => ?_, fun _ _ => ⟨fun c => ?_, fun c a4 q4 _ a7 q7 _ => ⟨fun d => ?_, fun d a11 q11 _ a14 q14 _ _ => ?_⟩⟩⟩
  · rw [ki_lt, z] at c
    omega
  · rw [ki_le, h1] at c
    unfold t_by at kk
    rw [if_neg (by omega)] at kk
    exact kk
  · obtain rfl := Option.some.inj (q4.symm.trans e1)
    obtain rfl := Option.some.inj (q7.symm.trans e2)
    rw [ki_le, h1] at c
    rw [ki_le, e3, z5] at d
    omega
  · obtain rfl := Option.some.inj (q11.symm.trans e1)
    obtain rfl := Option.some.inj (q14.symm.trans e2)
    rw [ki_le, h1] at c
    unfold t_by at kk
    rw [if_pos (by omega)] at kk
    rw [show i.toNatClampNeg = p by rw [ki_nat]; omega, e4 p (by omega)]
    exact kk
theorem vy_kindOf {b : Int32} {σ : kx_S} {Q : Int32 → kx_S → Prop} (kk : Q (t_kd b) σ) : vX10_kindOf b σ Q := by
  have two : (b < 97 ∨ 122 < b) → vX10_kindOf_14 Q b σ := by
    intro h1
    have one : (b < 48 ∨ 57 < b) → vX10_kindOf_28 Q b σ := by
      intro h2
      have e := t_kd28 h1 h2
      unfold vX10_kindOf_28
      rintro v1 rfl
      have eqs : ∀ (a r : Int32), t_kd a = r → v1 = a → Q r σ := fun a r er ea => by
        rw [ea, er] at kk
        exact kk
      have eqv : ∀ (a : Int32), t_kd a = a → v1 = a → Q v1 σ := fun a er ea => by
        rw [ea, er, ← ea] at kk
        exact kk
      refine ⟨eqs (-1) 0 (by decide), eqs 10 5 (by decide), eqs 32 5 (by decide), eqv 40 (by decide), eqv 41 (by decide), eqv 42 (by decide), eqv 43 (by decide), eqv 45 (by decide), eqv 47 (by decide), eqv 59 (by decide), eqv 60 (by decide), eqv 61 (by decide), fun a0 a1 a2 a3 a4 a5 a6 a7 a8 a9 a10 a11 => ?_⟩
      have e4 : t_kd v1 = 4 := by
        rw [e, if_neg a0, if_neg (by rintro (x | x); exact a1 x; exact a2 x), if_neg]
        rintro (x | x | x | x | x | x | x | x | x)
        · exact a3 x
        · exact a4 x
        · exact a5 x
        · exact a6 x
        · exact a7 x
        · exact a8 x
        · exact a9 x
        · exact a10 x
        · exact a11 x
      rw [e4] at kk
      exact kk
    unfold vX10_kindOf_14
    refine ⟨fun c => one (.inl c), fun c => ⟨fun d => one (.inr d), fun d => ?_⟩⟩
    rw [t_kd2 h1 (fun x => x.elim c d)] at kk
    exact kk
  unfold vX10_kindOf
  refine ⟨fun c => two (.inl c), fun c => ⟨fun d => two (.inr d), fun d => ?_⟩⟩
  rw [t_kd1 (fun x => x.elim c d)] at kk
  exact kk
theorem vy_endOfRow {f : Nat → Int32} {n tk : Nat} {σ : kx_S} {k : Int32} {Q : Int32 → kx_S → Prop} (h : ct_ f n tk σ) : ∀ (j : Nat) (i : Int32) (p : Nat), i.toInt = (p : Int) → (∀ v : Int32, v.toInt = (t_end f n k p : Int) → Q v σ) → vX10_endOfRow_2 Q j tk k i σ := by
  intro j
  induction j with
  | zero => intro _ _ _ _; exact trivial
  | succ j ih =>
    intro i p hp kk
    unfold vX10_endOfRow_2
    intro _
    refine ⟨fun c => ?_, fun c => ?_⟩
    · rw [ki_le, h.1] at c
      exact kk i (by rw [t_end_hi (by omega)]; exact hp)
    rw [ki_le, h.1] at c
    refine vy_byteAt h hp (vy_kindOf ⟨fun d => ?_, fun d => ?_⟩)
    · unfold t_by at d
      rw [if_pos (by omega)] at d
      exact kk i (by rw [t_end_ne (by omega) d]; exact hp)
    · unfold t_by at d
      rw [if_pos (by omega)] at d
      intro v8 e8
      have h5 := h.2.1
      refine ih v8 (p + 1) ?_ (fun v hv => kk v (by rw [t_end_eq (by omega) d]; exact hv))
      rw [e8, ki_add (by rw [hp, ki_z1]; omega) (by rw [hp, ki_z1]; omega), hp, ki_z1]
      omega
/-- the class's kind: a long number is one of its own -/
def t_kc (t : tk_T) : Int32 := if t.1 = 2 ∧ 6 < t.2.2 - t.2.1 then 3 else t.1
def cT_ (t : tk_T) (tk : Nat) (σ : kx_S) : Prop := (xi σ 194 tk).toInt = (t.2.2 : Int) ∧ (xi σ 195 tk).toInt = (t.2.1 : Int) ∧ xi σ 196 tk = t_kc t
/-- nothing but the token changed -/
def ck_ (tk : Nat) (σ u : kx_S) : Prop := (∀ f a, ¬ (a = tk ∧ (f = 194 ∨ f = 195 ∨ f = 196)) → xi u f a = xi σ f a) ∧ u.1 = σ.1 ∧ u.2.2 = σ.2.2
theorem ck_refl {tk : Nat} {σ : kx_S} : ck_ tk σ σ := ⟨fun _ _ _ => rfl, rfl, rfl⟩
theorem ck_trans {tk : Nat} {a b c : kx_S} (h : ck_ tk a b) (k : ck_ tk b c) : ck_ tk a c := ⟨fun f x hx => (k.1 f x hx).trans (h.1 f x hx), k.2.1.trans h.2.1, k.2.2.trans h.2.2⟩
theorem ck_si {tk : Nat} {σ u : kx_S} {f : Nat} {v : Int32} (h : ck_ tk σ u) (hf : f = 194 ∨ f = 195 ∨ f = 196) : ck_ tk σ (xsi u f tk v) := by
  refine ⟨fun g a hg => ?_, h.2.1, h.2.2⟩
  refine Eq.trans ?_ (h.1 g a hg)
  show (if g = f then va_up (u.2.1 f) tk v else u.2.1 g) a = u.2.1 g a
  by_cases c : g = f
  · rw [if_pos c, va_up_ne, c]
    intro e
    exact hg ⟨e, by rw [c]; exact hf⟩
  · rw [if_neg c]
theorem ct_ck {f : Nat → Int32} {n tk : Nat} {σ u : kx_S} (h : ct_ f n tk σ) (k : ck_ tk σ u) : ct_ f n tk u := by
  obtain ⟨h1, h2, tp, tb, e1, e2, e3, e4⟩ := h
  have r : ∀ f a, xr u f a = xr σ f a := fun f a => by show u.2.2.1 f a = σ.2.2.1 f a; rw [k.2.2]
  refine ⟨by rw [k.1 193 tk (by rintro ⟨_, h | h | h⟩ <;> exact absurd h (by decide))]; exact h1, h2, tp, tb, by rw [r]; exact e1, by rw [r]; exact e2, ?_, fun i hi => ?_⟩
  · show u.2.2.2.2.1 tb = _
    rw [k.2.2]
    exact e3
  · show u.2.2.2.2.2.1 tb i = _
    rw [k.2.2]
    exact e4 i hi
theorem vy_advance {f : Nat → Int32} {n tk p : Nat} {σ : kx_S} {Q : kx_S → Prop} (h : ct_ f n tk σ) (hp : (xi σ 194 tk).toInt = (p : Int)) (hpn : p ≤ n) (kk : ∀ u, ck_ tk σ u → ct_ f n tk u → cT_ (t_tok f n p) tk u → Q u) : vX10_advance tk σ Q := by
  unfold vX10_advance
  intro _
  unfold vX10_endOfRow
  intro j
  refine vy_endOfRow h j _ p hp (fun r14 e14 => ?_)
  rintro _ σ16 rfl
  obtain ⟨s, es⟩ : ∃ s, s = t_end f n 5 p := ⟨_, rfl⟩
  have hs : s ≤ n := by rw [es]; exact (t_end_ge hpn).2
  rw [← es] at e14
  have k16 := ck_si (v := r14) (ck_refl (tk := tk) (σ := σ)) (f := 195) (.inr (.inl rfl))
  have c16 := ct_ck h k16
  have x16 : xi (xsi σ 195 tk r14) 195 tk = r14 := va_up_self _ _ _
  refine vy_byteAt c16 (p := s) (by rw [x16]; exact e14) (vy_kindOf ?_)
  obtain ⟨k, ek⟩ : ∃ k, k = t_kd (t_by f n s) := ⟨_, rfl⟩
  rw [← ek]
  have et : t_tok f n p = (k, s, if k = 1 ∨ k = 2 then t_end f n k s else min (s + 1) n) := by
    unfold t_tok t_at
    rw [← es, ← ek]
  rintro _ σ23 rfl
  have k23 := ck_si (v := k) k16 (f := 196) (.inr (.inr rfl))
  have c23 := ct_ck h k23
  have x23 : xi (xsi (xsi σ 195 tk r14) 196 tk k) 196 tk = k := va_up_self _ _ _
  have y23 : xi (xsi (xsi σ 195 tk r14) 196 tk k) 195 tk = r14 := x16
  rw [x23, y23]
  have last : ∀ (e : Nat) (v : Int32), v.toInt = (e : Int) → s ≤ e → t_tok f n p = (k, s, e) → vX10_advance_80 Q tk (xsi (xsi (xsi σ 195 tk r14) 196 tk k) 194 tk v) := by
    intro e v ev he q
    have kl := ck_si (v := v) k23 (f := 194) (.inl rfl)
    have x1 : xi (xsi (xsi (xsi σ 195 tk r14) 196 tk k) 194 tk v) 194 tk = v := va_up_self _ _ _
    have x2 : xi (xsi (xsi (xsi σ 195 tk r14) 196 tk k) 194 tk v) 195 tk = r14 := y23
    have x3 : xi (xsi (xsi (xsi σ 195 tk r14) 196 tk k) 194 tk v) 196 tk = k := x23
    have sb : (v - r14).toInt = (e : Int) - s := by
      have h1 := ki_hi v
      rw [ki_sub (by omega) (by omega), ev, e14]
    have z6 : (6 : Int32).toInt = 6 := by decide
    unfold vX10_advance_80
    intro _
    rw [x1, x2, x3]
    refine ⟨fun c => ?_, fun c => ⟨fun d => ?_, fun d => ?_⟩⟩
    · refine kk _ kl (ct_ck h kl) ?_
      rw [q]
      refine ⟨by rw [x1]; exact ev, by rw [x2]; exact e14, ?_⟩
      rw [x3]
      exact (if_neg (fun x => c x.1)).symm
    · rw [ki_le, sb, z6] at d
      refine kk _ kl (ct_ck h kl) ?_
      rw [q]
      refine ⟨by rw [x1]; exact ev, by rw [x2]; exact e14, ?_⟩
      rw [x3]
      refine (if_neg (fun x => ?_)).symm
      have x2 : 6 < e - s := x.2
      omega
    · rw [ki_le, sb, z6] at d
      rintro σ10 rfl
      have kl2 := ck_si (v := 3) kl (f := 196) (.inr (.inr rfl))
      refine kk _ kl2 (ct_ck h kl2) ?_
      rw [q]
      refine ⟨by show (xi (xsi (xsi (xsi σ 195 tk r14) 196 tk k) 194 tk v) 194 tk).toInt = _; rw [x1]; exact ev, by show (xi (xsi (xsi (xsi σ 195 tk r14) 196 tk k) 194 tk v) 195 tk).toInt = _; rw [x2]; exact e14, ?_⟩
      have x4 : xi (xsi (xsi (xsi (xsi σ 195 tk r14) 196 tk k) 194 tk v) 196 tk 3) 196 tk = 3 := va_up_self _ _ _
      rw [x4]
      exact (if_pos ⟨c, show 6 < e - s by omega⟩).symm
  have word : k = 1 ∨ k = 2 → vX10_advance_44 (vX10_advance_80 Q) Q tk (xsi (xsi σ 195 tk r14) 196 tk k) := by
    intro hk
    unfold vX10_advance_44
    intro _
    unfold vX10_endOfRow
    intro j2
    rw [x23, y23]
    refine vy_endOfRow c23 j2 _ s e14 (fun v ev => ?_)
    rintro _ σ5 rfl
    exact last (t_end f n k s) v ev (t_end_ge hs).1 (by rw [et, if_pos hk])
  refine ⟨fun c => word (.inl c), fun c => ⟨fun d => ?_, fun d => word (.inr d)⟩⟩
  rintro v27 e27 σ28 rfl
  have h5 := h.2.1
  have s1 : (r14 + 1).toInt = (s : Int) + 1 := by rw [ki_add (by rw [e14, ki_z1]; omega) (by rw [e14, ki_z1]; omega), e14, ki_z1]
  have n1 : (xi (xsi (xsi σ 195 tk r14) 196 tk k) 193 tk).toInt = (n : Int) := c23.1
  refine last (min (s + 1) n) v27 ?_ (by omega) (by rw [et, if_neg (fun x => x.elim c d)])
  rw [e27]
  split
  · next q =>
    rw [ki_lt, n1, s1] at q
    rw [n1]
    omega
  · next q =>
    rw [ki_lt, n1, s1] at q
    rw [s1]
    omega
end
section
/-! the reference's tokens -/
def mt_ (f : Nat → Int32) (n : Nat) (μ : km_S) : Prop := (km_i μ 61).toInt = (n : Int) ∧ n ≤ 500 ∧ ∀ i, i < n → km_a μ 52 i = f i
/-- nothing but the token changed -/
def mk_ (μ u : km_S) : Prop := (∀ j, j ≠ 60 → j ≠ 62 → j ≠ 63 → j ≠ 64 → j ≠ 65 → km_i u j = km_i μ j) ∧ u.2 = μ.2
theorem mk_refl {μ : km_S} : mk_ μ μ := ⟨fun _ _ _ _ _ _ => rfl, rfl⟩
theorem mk_trans {a b c : km_S} (h : mk_ a b) (k : mk_ b c) : mk_ a c := ⟨fun j h1 h2 h3 h4 h5 => (k.1 j h1 h2 h3 h4 h5).trans (h.1 j h1 h2 h3 h4 h5), k.2.trans h.2⟩
theorem mk_si {μ u : km_S} {f : Nat} {v : Int32} (h : mk_ μ u) (hf : f = 60 ∨ f = 62 ∨ f = 63 ∨ f = 64 ∨ f = 65) : mk_ μ (km_si u f v) := by
  refine ⟨fun j h1 h2 h3 h4 h5 => ?_, h.2⟩
  refine Eq.trans ?_ (h.1 j h1 h2 h3 h4 h5)
  show upd u.1 f v j = u.1 j
  refine w_updN ?_
  rcases hf with rfl | rfl | rfl | rfl | rfl <;> assumption
theorem mt_mk {f : Nat → Int32} {n : Nat} {μ u : km_S} (h : mt_ f n μ) (k : mk_ μ u) : mt_ f n u := by
  refine ⟨by rw [k.1 61 (by decide) (by decide) (by decide) (by decide) (by decide)]; exact h.1, h.2.1, fun i hi => ?_⟩
  show u.2.1 52 i = f i
  rw [k.2]
  exact h.2.2 i hi
theorem vm_byteAt {f : Nat → Int32} {n p : Nat} {μ : km_S} {i : Int32} {Q : Int32 → km_S → Prop} (h : mt_ f n μ) (hp : i.toInt = (p : Int)) (kk : Q (t_by f n p) μ) : vX12_byteAt i μ Q := by
  unfold vX12_byteAt
  refine ⟨fun c => ?_, fun c _ => ?_⟩
  · rw [ki_le, h.1] at c
    unfold t_by at kk
    rw [if_neg (by omega)] at kk
    exact kk
  · rw [ki_le, h.1] at c
    unfold t_by at kk
    rw [if_pos (by omega)] at kk
    rw [show i.toNatClampNeg = p by rw [ki_nat]; omega, h.2.2 p (by omega)]
    exact kk
/-- letters and digits by their kinds -/
theorem vm_isLetter {b : Int32} {μ : km_S} {Q : Int32 → km_S → Prop} (k0 : ¬ t_kd b = 1 → Q 0 μ) (k1 : t_kd b = 1 → Q 1 μ) : vX12_isLetter b μ Q := by
  have no : (b < 97 ∨ 122 < b) → ¬ t_kd b = 1 := by
    intro h
    by_cases h2 : b < 48 ∨ 57 < b
    · rw [t_kd28 h h2]
      split
      · decide
      · split
        · decide
        · split
          · next q => intro e; rw [e] at q; exact absurd q (by decide)
          · decide
    · rw [t_kd2 h h2]
      decide
  refine ⟨fun c => k0 (no (.inl c)), fun c => ⟨fun d => k0 (no (.inr d)), fun d => k1 (t_kd1 (fun x => x.elim c d))⟩⟩
theorem vm_isDigit {b : Int32} {μ : km_S} {Q : Int32 → km_S → Prop} (k0 : ¬ t_kd b = 2 → Q 0 μ) (k1 : t_kd b = 2 → Q 1 μ) : vX12_isDigit b μ Q := by
  have z97 : (97 : Int32).toInt = 97 := by decide
  have z48 : (48 : Int32).toInt = 48 := by decide
  have z57 : (57 : Int32).toInt = 57 := by decide
  have no : (b < 48 ∨ 57 < b) → ¬ t_kd b = 2 := by
    intro h2
    by_cases h : b < 97 ∨ 122 < b
    · rw [t_kd28 h h2]
      split
      · decide
      · split
        · decide
        · split
          · next q => intro e; rw [e] at q; exact absurd q (by decide)
          · decide
    · rw [t_kd1 h]
      decide
  refine ⟨fun c => k0 (no (.inl c)), fun c => ⟨fun d => k0 (no (.inr d)), fun d => k1 (t_kd2 (.inl ?_) (fun x => x.elim c d))⟩⟩
  rw [ki_lt, z57] at d
  rw [ki_lt, z97]
  omega
/-- the reference's own names of the kinds -/
def t_rk (k : Int32) : Int32 := if k = 0 then 0 else if k = 1 then 1 else if k = 2 then 2 else if k = 4 then 4 else 3
def mT_ (t : tk_T) (μ : km_S) : Prop := (km_i μ 60).toInt = (t.2.2 : Int) ∧ (km_i μ 64).toInt = (t.2.1 : Int) ∧ (km_i μ 65).toInt = (t.2.2 : Int) ∧ km_i μ 62 = t_rk t.1 ∧ (t_rk t.1 = 3 → km_i μ 63 = t.1)
theorem vm_run {f : Nat → Int32} {n : Nat} {K : km_S → Prop} {Q : km_S → Prop} : ∀ (j : Nat) (μ : km_S) (p : Nat), mt_ f n μ → p ≤ n → (km_i μ 60).toInt = (p : Int) → (∀ u, mk_ μ u → km_i u 62 = km_i μ 62 → km_i u 63 = km_i μ 63 → km_i u 64 = km_i μ 64 → (km_i u 60).toInt = (t_end f n 1 p : Int) → K u) → vX12_step_81 K Q j μ := by
  intro j
  induction j with
  | zero => intro _ _ _ _ _ _; exact trivial
  | succ j ih =>
    intro μ p h hpn hp kk
    unfold vX12_step_81
    refine vm_byteAt h hp (vm_isLetter (fun c => ⟨fun _ => ?_, fun x => absurd rfl x⟩) (fun c => ⟨fun x => absurd x (by decide), fun _ => ?_⟩))
    · refine kk μ mk_refl rfl rfl rfl ?_
      by_cases d : p < n
      · unfold t_by at c
        rw [if_pos d] at c
        rw [t_end_ne d c]
        exact hp
      · rw [t_end_hi (by omega)]
        exact hp
    · rintro μ19 rfl
      have d : p < n := by
        by_cases d : p < n
        · exact d
        · unfold t_by at c
          rw [if_neg d] at c
          exact absurd c (by decide)
      unfold t_by at c
      rw [if_pos d] at c
      have h5 := h.2.1
      have m1 := mk_si (v := km_i μ 60 + 1) (mk_refl (μ := μ)) (f := 60) (.inl rfl)
      refine ih _ (p + 1) (mt_mk h m1) (by omega) ?_ (fun u a b1 b2 b3 b4 => kk u (mk_trans m1 a) b1 b2 b3 (by rw [t_end_eq d c]; exact b4))
      show (upd μ.1 60 (km_i μ 60 + 1) 60).toInt = _
      rw [w_updS, ki_add (by rw [hp, ki_z1]; omega) (by rw [hp, ki_z1]; omega), hp, ki_z1]
      omega
theorem vm_run2 {f : Nat → Int32} {n : Nat} {K : km_S → Prop} {Q : km_S → Prop} : ∀ (j : Nat) (μ : km_S) (p : Nat), mt_ f n μ → p ≤ n → (km_i μ 60).toInt = (p : Int) → (∀ u, mk_ μ u → km_i u 62 = km_i μ 62 → km_i u 63 = km_i μ 63 → km_i u 64 = km_i μ 64 → (km_i u 60).toInt = (t_end f n 2 p : Int) → K u) → vX12_step_123 K Q j μ := by
  intro j
  induction j with
  | zero => intro _ _ _ _ _ _; exact trivial
  | succ j ih =>
    intro μ p h hpn hp kk
    unfold vX12_step_123
    refine vm_byteAt h hp (vm_isDigit (fun c => ⟨fun _ => ?_, fun x => absurd rfl x⟩) (fun c => ⟨fun x => absurd x (by decide), fun _ => ?_⟩))
    · refine kk μ mk_refl rfl rfl rfl ?_
      by_cases d : p < n
      · unfold t_by at c
        rw [if_pos d] at c
        rw [t_end_ne d c]
        exact hp
      · rw [t_end_hi (by omega)]
        exact hp
    · rintro μ19 rfl
      have d : p < n := by
        by_cases d : p < n
        · exact d
        · unfold t_by at c
          rw [if_neg d] at c
          exact absurd c (by decide)
      unfold t_by at c
      rw [if_pos d] at c
      have h5 := h.2.1
      have m1 := mk_si (v := km_i μ 60 + 1) (mk_refl (μ := μ)) (f := 60) (.inl rfl)
      refine ih _ (p + 1) (mt_mk h m1) (by omega) ?_ (fun u a b1 b2 b3 b4 => kk u (mk_trans m1 a) b1 b2 b3 (by rw [t_end_eq d c]; exact b4))
      show (upd μ.1 60 (km_i μ 60 + 1) 60).toInt = _
      rw [w_updS, ki_add (by rw [hp, ki_z1]; omega) (by rw [hp, ki_z1]; omega), hp, ki_z1]
      omega
theorem t_kd5 {b : Int32} : t_kd b = 5 ↔ b = 32 ∨ b = 10 := by
  constructor
  · intro h
    by_cases h1 : b < 97 ∨ 122 < b
    · by_cases h2 : b < 48 ∨ 57 < b
      · rw [t_kd28 h1 h2] at h
        split at h
        · exact absurd h (by decide)
        · split at h
          · next q => exact q.symm
          · split at h
            · next q => rw [h] at q; exact absurd q (by decide)
            · exact absurd h (by decide)
      · rw [t_kd2 h1 h2] at h
        exact absurd h (by decide)
    · rw [t_kd1 h1] at h
      exact absurd h (by decide)
  · rintro (h | h) <;> rw [h] <;> decide
theorem vm_skip {f : Nat → Int32} {n : Nat} {K : km_S → Prop} {Q : km_S → Prop} : ∀ (j : Nat) (μ : km_S) (p : Nat), mt_ f n μ → p ≤ n → (km_i μ 60).toInt = (p : Int) → (∀ u, mk_ μ u → (km_i u 60).toInt = (t_end f n 5 p : Int) → K u) → vX12_step_0 K Q j μ := by
  intro j
  induction j with
  | zero => intro _ _ _ _ _ _; exact trivial
  | succ j ih =>
    intro μ p h hpn hp kk
    have next : t_kd (t_by f n p) = 5 → vX12_step_26 (vX12_step_0 K Q j) Q μ := by
      intro c
      unfold vX12_step_26
      rintro μ6 rfl
      have d : p < n := by
        by_cases d : p < n
        · exact d
        · unfold t_by at c
          rw [if_neg d] at c
          exact absurd c (by decide)
      unfold t_by at c
      rw [if_pos d] at c
      have h5 := h.2.1
      have m1 := mk_si (v := km_i μ 60 + 1) (mk_refl (μ := μ)) (f := 60) (.inl rfl)
      refine ih _ (p + 1) (mt_mk h m1) (by omega) ?_ (fun u a b => kk u (mk_trans m1 a) (by rw [t_end_eq d c]; exact b))
      show (upd μ.1 60 (km_i μ 60 + 1) 60).toInt = _
      rw [w_updS, ki_add (by rw [hp, ki_z1]; omega) (by rw [hp, ki_z1]; omega), hp, ki_z1]
      omega
    unfold vX12_step_0
    refine vm_byteAt h hp ⟨fun c => next (t_kd5.2 (.inl c)), fun c => ?_⟩
    refine vm_byteAt h hp ⟨fun d => ?_, fun d => next (t_kd5.2 (.inr d))⟩
    refine kk μ mk_refl ?_
    by_cases e : p < n
    · have q : ¬ t_kd (f p) = 5 := by
        intro q
        have c' := c
        have d' := d
        unfold t_by at c' d'
        rw [if_pos e] at c' d'
        exact (t_kd5.1 q).elim c' d'
      rw [t_end_ne e q]
      exact hp
    · rw [t_end_hi (by omega)]
      exact hp
theorem t_run_idem {f : Nat → Int32} {n : Nat} {k : Int32} : ∀ (m p : Nat), p + m = n → t_end f n k (t_run f k m p) = t_run f k m p := by
  intro m
  induction m with
  | zero => intro p h; exact t_end_hi (by show n ≤ p; omega)
  | succ m ih =>
    intro p h
    show t_end f n k (if t_kd (f p) = k then t_run f k m (p + 1) else p) = (if t_kd (f p) = k then t_run f k m (p + 1) else p)
    split
    · exact ih (p + 1) (by omega)
    · next q => exact t_end_ne (by omega) q
theorem t_end_idem {f : Nat → Int32} {n : Nat} {k : Int32} {p : Nat} (h : p ≤ n) : t_end f n k (t_end f n k p) = t_end f n k p := t_run_idem (n - p) p (by omega)
theorem vm_step {f : Nat → Int32} {n p : Nat} {μ : km_S} {Q : km_S → Prop} (hbytes : ∀ i, i < n → ¬ f i = -1) (h : mt_ f n μ) (hp : (km_i μ 60).toInt = (p : Int)) (hpn : p ≤ n) (kk : ∀ u, mk_ μ u → mt_ f n u → mT_ (t_tok f n p) u → Q u) : vX12_step μ Q := by
  unfold vX12_step
  intro j
  refine vm_skip j μ p h hpn hp (fun μ0 a0 b0 => ?_)
  obtain ⟨s, es⟩ : ∃ s, s = t_end f n 5 p := ⟨_, rfl⟩
  have hs : s ≤ n := by rw [es]; exact (t_end_ge hpn).2
  have h5 := h.2.1
  rw [← es] at b0
  unfold vX12_step_39
  rintro μ26 rfl μ27 rfl
  have m27 := mk_si (v := 0) (mk_si (v := km_i μ0 60) a0 (f := 64) (.inr (.inr (.inr (.inl rfl))))) (f := 63) (.inr (.inr (.inl rfl)))
  obtain ⟨μ2, eμ⟩ : ∃ μ2, μ2 = km_si (km_si μ0 64 (km_i μ0 60)) 63 0 := ⟨_, rfl⟩
  have x60 : (km_i μ2 60).toInt = (s : Int) := by rw [eμ]; exact b0
  have x64 : (km_i μ2 64).toInt = (s : Int) := by
    rw [eμ]
    show (upd μ0.1 64 (km_i μ0 60) 64).toInt = _
    rw [w_updS]
    exact b0
  rw [← eμ] at m27
  rw [← eμ]
  have c2 := mt_mk h m27
  obtain ⟨b, eb⟩ : ∃ b, b = t_by f n s := ⟨_, rfl⟩
  obtain ⟨k, ek⟩ : ∃ k, k = t_kd b := ⟨_, rfl⟩
  have et : t_tok f n p = (k, s, if k = 1 ∨ k = 2 then t_end f n k s else min (s + 1) n) := by
    unfold t_tok t_at
    rw [← es, ← eb, ← ek]
  have fin : ∀ (u : km_S) (e : Nat), mk_ μ u → (km_i u 60).toInt = (e : Int) → (km_i u 64).toInt = (s : Int) → km_i u 62 = t_rk k → (t_rk k = 3 → km_i u 63 = k) → t_tok f n p = (k, s, e) → vX12_step_246 Q u := by
    intro u e mu u60 u64 u62 u63 q
    unfold vX12_step_246
    rintro μ5 rfl
    have m5 := mk_si (v := km_i u 60) mu (f := 65) (.inr (.inr (.inr (.inr rfl))))
    refine kk _ m5 (mt_mk h m5) ?_
    rw [q]
    refine ⟨u60, u64, ?_, u62, u63⟩
    show (upd u.1 65 (km_i u 60) 65).toInt = _
    rw [w_updS]
    exact u60
  refine vm_byteAt c2 x60 ⟨fun c => ?_, fun c => ?_⟩
  · rw [← eb] at c
    rw [← eb]
    have hlt : s < n := by
      by_cases d : s < n
      · exact d
      · unfold t_by at eb
        rw [if_neg d] at eb
        exact absurd eb c
    refine vm_isLetter (fun c1 => ⟨fun _ => ?_, fun x => absurd rfl x⟩) (fun c1 => ⟨fun x => absurd x (by decide), fun _ j2 => ?_⟩)
    · rw [← ek] at c1
      refine vm_isDigit (fun c2' => ⟨fun _ => ?_, fun x => absurd rfl x⟩) (fun c2' => ⟨fun x => absurd x (by decide), fun _ j2 => ?_⟩)
      · rw [← ek] at c2'
        rintro μ37 rfl
        have m37 := mk_si (v := km_i μ2 60 + 1) m27 (f := 60) (.inl rfl)
        have e1 : min (s + 1) n = s + 1 := by omega
        have y60 : (km_i (km_si μ2 60 (km_i μ2 60 + 1)) 60).toInt = ((s + 1 : Nat) : Int) := by
          show (upd μ2.1 60 (km_i μ2 60 + 1) 60).toInt = _
          rw [w_updS, ki_add (by rw [x60, ki_z1]; omega) (by rw [x60, ki_z1]; omega), x60, ki_z1]
          omega
        have et2 : t_tok f n p = (k, s, s + 1) := by rw [et, if_neg (fun x => x.elim c1 c2'), e1]
        have sg : ∀ a : Int32, t_kd a = a → t_rk a = 3 → b = a → vX12_step_222 (vX12_step_227 (vX12_step_246 Q) Q) Q b (km_si μ2 60 (km_i μ2 60 + 1)) := by
          intro a ha hr e
          have kb : k = b := by rw [ek, e]; exact ha
          unfold vX12_step_222 vX12_step_227
          refine ⟨fun x => absurd x (by decide), fun _ => ?_⟩
          unfold vX12_step_238
          rintro μ1 rfl μ3 rfl
          refine fin _ (s + 1) (mk_si (mk_si m37 (f := 62) (.inr (.inl rfl))) (f := 63) (.inr (.inr (.inl rfl)))) y60 x64 ?_ (fun _ => ?_) et2
          · show upd μ2.1 62 3 62 = _
            rw [w_updS, kb, e, hr]
          · show upd (upd (upd μ2.1 60 (km_i μ2 60 + 1)) 62 3) 63 b 63 = _
            rw [w_updS, kb]
        refine ⟨sg 40 (by decide) (by decide), fun n1 => ⟨sg 41 (by decide) (by decide), fun n2 => ⟨sg 59 (by decide) (by decide), fun n3 => ⟨sg 43 (by decide) (by decide), fun n4 => ⟨sg 45 (by decide) (by decide), fun n5 => ⟨sg 42 (by decide) (by decide), fun n6 => ⟨sg 47 (by decide) (by decide), fun n7 => ⟨sg 60 (by decide) (by decide), fun n8 => ⟨fun n9 => ?_, sg 61 (by decide) (by decide)⟩⟩⟩⟩⟩⟩⟩⟩⟩
        have n5b : ¬ k = 5 := by
          intro q
          have hq : t_kd (f s) = 5 := by
            rw [← q, ek, eb]
            unfold t_by
            rw [if_pos hlt]
          have hx : t_end f n 5 s = t_end f n 5 (s + 1) := t_end_eq hlt hq
          have h1 : t_end f n 5 s = s := by
            rw [es]
            exact t_end_idem hpn
          have h2 := (t_end_ge (f := f) (k := 5) (show s + 1 ≤ n by omega)).1
          omega
        have k4 : k = 4 := by
          have h1 : b < 97 ∨ 122 < b := by
            by_cases q : b < 97 ∨ 122 < b
            · exact q
            · exact absurd (ek.trans (t_kd1 q)) c1
          have h2 : b < 48 ∨ 57 < b := by
            by_cases q : b < 48 ∨ 57 < b
            · exact q
            · exact absurd (ek.trans (t_kd2 h1 q)) c2'
          rw [ek, t_kd28 h1 h2, if_neg c]
          rw [if_neg (fun q => n5b (ek.trans (t_kd5.2 q.symm))), if_neg]
          rintro (x | x | x | x | x | x | x | x | x)
          · exact n1 x
          · exact n2 x
          · exact n6 x
          · exact n4 x
          · exact n5 x
          · exact n7 x
          · exact n3 x
          · exact n8 x
          · exact n9 x
        unfold vX12_step_227
        refine ⟨fun _ => ?_, fun x => absurd rfl x⟩
        unfold vX12_step_238
        rintro μ1 rfl μ3 rfl
        refine fin _ (s + 1) (mk_si (mk_si m37 (f := 62) (.inr (.inl rfl))) (f := 63) (.inr (.inr (.inl rfl)))) y60 x64 ?_ (fun q => ?_) et2
        · show upd μ2.1 62 4 62 = _
          rw [w_updS, k4]
          decide
        · rw [k4] at q
          exact absurd q (by decide)
      · rw [← ek] at c2'
        refine vm_run2 j2 μ2 s c2 hs x60 (fun u a b1 b2 b3 b4 => ?_)
        unfold vX12_step_150
        rintro μ3 rfl
        refine fin _ (t_end f n 2 s) (mk_si (mk_trans m27 a) (f := 62) (.inr (.inl rfl))) b4 (by show (km_i u 64).toInt = _; rw [b3]; exact x64) ?_ (fun q => ?_) (by rw [et, c2', if_pos (.inr rfl)])
        · show upd u.1 62 2 62 = _
          rw [w_updS, c2']
          decide
        · rw [c2'] at q
          exact absurd q (by decide)
    · rw [← ek] at c1
      refine vm_run j2 μ2 s c2 hs x60 (fun u a b1 b2 b3 b4 => ?_)
      unfold vX12_step_108
      rintro μ3 rfl
      refine fin _ (t_end f n 1 s) (mk_si (mk_trans m27 a) (f := 62) (.inr (.inl rfl))) b4 (by show (km_i u 64).toInt = _; rw [b3]; exact x64) ?_ (fun q => ?_) (by rw [et, c1, if_pos (.inl rfl)])
      · show upd u.1 62 1 62 = _
        rw [w_updS, c1]
        decide
      · rw [c1] at q
        exact absurd q (by decide)
  · rw [← eb] at c
    have k0 : k = 0 := by rw [ek, c]; decide
    rintro μ49 rfl
    -- no byte of a tape is -1: either the end, or a byte that says so
    refine fin _ (min (s + 1) n) (mk_si m27 (f := 62) (.inr (.inl rfl))) ?_ x64 ?_ (fun q => ?_) (by rw [et, k0, if_neg (by decide)])
    · show (km_i μ2 60).toInt = _
      rw [x60]
      have : n ≤ s := by
        by_cases d : s < n
        · exfalso
          unfold t_by at eb
          rw [if_pos d] at eb
          exact hbytes s d (by rw [← eb]; exact c)
        · omega
      omega
    · show upd μ2.1 62 0 62 = _
      rw [w_updS, k0]
      decide
    · rw [k0] at q
      exact absurd q (by decide)
end
section
/-! words and numbers -/
def t_len (l : Nat) : Nat := ks_len.getD l 0
def t_byt (l i : Nat) : Int32 := (ks_byt.getD l []).getD i 0
def t_wd (f : Nat → Int32) (t : tk_T) (l : Nat) : Bool := decide (t.1 = 1) && (decide (t.2.2 - t.2.1 = t_len l) && (List.range (t_len l)).all (fun i => decide (f (t.2.1 + i) = t_byt l i)))
theorem t_wd_iff {f : Nat → Int32} {t : tk_T} {l : Nat} : t_wd f t l = true ↔ t.1 = 1 ∧ t.2.2 - t.2.1 = t_len l ∧ ∀ i, i < t_len l → f (t.2.1 + i) = t_byt l i := by
  unfold t_wd
  rw [Bool.and_eq_true, Bool.and_eq_true, decide_eq_true_iff, decide_eq_true_iff, List.all_eq_true]
  constructor
  · rintro ⟨a, b, c⟩
    exact ⟨a, b, fun i hi => of_decide_eq_true (c i (List.mem_range.mpr hi))⟩
  · rintro ⟨a, b, c⟩
    exact ⟨a, b, fun i hi => decide_eq_true (c i (List.mem_range.mp hi))⟩
theorem t_wd_no {f : Nat → Int32} {t : tk_T} {l : Nat} (h : ¬ (t.1 = 1 ∧ t.2.2 - t.2.1 = t_len l ∧ ∀ i, i < t_len l → f (t.2.1 + i) = t_byt l i)) : t_wd f t l = false := by
  cases e : t_wd f t l
  · rfl
  · exact absurd (t_wd_iff.1 e) h
/-- a token of the text -/
def t_ok (n : Nat) (t : tk_T) : Prop := t.2.1 ≤ t.2.2 ∧ t.2.2 ≤ n
theorem t_tok_ok {f : Nat → Int32} {n p : Nat} (h : p ≤ n) : t_ok n (t_tok f n p) ∧ p ≤ (t_tok f n p).2.1 := by
  have h1 := t_end_ge (f := f) (k := 5) h
  unfold t_tok t_at t_ok
  refine ⟨⟨?_, ?_⟩, h1.1⟩
  · show t_end f n 5 p ≤ (if _ then _ else _)
    split
    · exact (t_end_ge h1.2).1
    · exact Nat.le_min.mpr ⟨Nat.le_succ _, h1.2⟩
  · show (if _ then _ else _) ≤ n
    split
    · exact (t_end_ge h1.2).2
    · exact Nat.min_le_right _ _
theorem t_kc1 {t : tk_T} : t_kc t = 1 ↔ t.1 = 1 := by
  unfold t_kc
  split
  · next h =>
    constructor
    · intro e; exact absurd e (by decide)
    · intro e; rw [h.1] at e; exact absurd e (by decide)
  · exact Iff.rfl
theorem t_nI {k : Nat} (h : k ≤ 500) : (nI k).toInt = (k : Int) := nI_toInt (n := k) (by omega)
theorem t_len5 : ∀ l, l < 12 → t_len l ≤ 5 := by decide +kernel
theorem vy_isWord {f : Nat → Int32} {n tk : Nat} {t : tk_T} {l : Nat} {σ : kx_S} {Q : Int32 → kx_S → Prop} (h : ct_ f n tk σ) (T : cT_ t tk σ) (ok : t_ok n t) (k1 : t_wd f t l = true → Q 1 σ) (k0 : t_wd f t l = false → Q 0 σ) : vX10_isWord tk l σ Q := by
  have h5 := h.2.1
  unfold vX10_isWord
  intro _
  rw [T.2.2]
  refine ⟨fun c => k0 (t_wd_no (fun x => c (t_kc1.2 x.1))), fun c l12 => ?_⟩
  have c := t_kc1.1 c
  have l5 := t_len5 l l12
  have el : (nI (ks_len.getD l 0)).toInt = (t_len l : Int) := t_nI (k := t_len l) (by omega)
  have es : (xi σ 194 tk - xi σ 195 tk).toInt = (t.2.2 : Int) - t.2.1 := by
    have h1 := ok.1
    have h2 := ok.2
    rw [ki_sub (by rw [T.1, T.2.1]; omega) (by rw [T.1, T.2.1]; omega), T.1, T.2.1]
  refine ⟨fun d => ?_, fun d => k0 (t_wd_no (fun x => d (ki_eq.2 ?_)))⟩
  · rw [ki_eq, es, el] at d
    have loop : ∀ (j : Nat) (i : Int32) (q : Nat), i.toInt = (q : Int) → q ≤ t_len l → (∀ m, m < q → f (t.2.1 + m) = t_byt l m) → vX10_isWord_28 Q j tk l i σ := by
      intro j
      induction j with
      | zero => intro _ _ _ _ _; exact trivial
      | succ j ih =>
        intro i q hi hq hm
        unfold vX10_isWord_28
        intro _
        refine ⟨fun e => ?_, fun e _ => ?_⟩
        · rw [ki_le, el, hi] at e
          refine k1 (t_wd_iff.2 ⟨c, by omega, fun m hm2 => hm m (by omega)⟩)
        · rw [ki_le, el, hi] at e
          have h1 := ok.1
          have h2 := ok.2
          have hp : (xi σ 195 tk + i).toInt = ((t.2.1 + q : Nat) : Int) := by
            rw [ki_add (by rw [T.2.1, hi]; omega) (by rw [T.2.1, hi]; omega), T.2.1, hi]
            omega
          refine vy_byteAt h hp (fun _ _ => ?_)
          have eb : t_by f n (t.2.1 + q) = f (t.2.1 + q) := if_pos (by omega)
          have eq : i.toNatClampNeg = q := by rw [ki_nat]; omega
          rw [eb, eq]
          refine ⟨fun r => ?_, fun r => k0 (t_wd_no (fun x => r (x.2.2 q (by omega))))⟩
          intro v9 e9
          refine ih v9 (q + 1) ?_ (by omega) (fun m hm2 => ?_)
          · rw [e9, ki_add (by rw [hi, ki_z1]; omega) (by rw [hi, ki_z1]; omega), hi, ki_z1]
            omega
          · by_cases em : m = q
            · rw [em]; exact r
            · exact hm m (by omega)
    intro j
    exact loop j 0 0 (by decide) (Nat.zero_le _) (fun m hm => absurd hm (Nat.not_lt_zero m))
  · rw [es, el]
    have h1 := ok.1
    have := x.2.1
    omega
theorem vm_isWord {f : Nat → Int32} {n : Nat} {t : tk_T} {l : Nat} {μ : km_S} {Q : Int32 → km_S → Prop} (h : mt_ f n μ) (T : mT_ t μ) (ok : t_ok n t) (k1 : t_wd f t l = true → Q 1 μ) (k0 : t_wd f t l = false → Q 0 μ) : vX12_isWord l μ Q := by
  have h5 := h.2.1
  have r1 : ∀ k : Int32, t_rk k = 1 ↔ k = 1 := by
    intro k
    unfold t_rk
    constructor
    · intro e
      split at e
      · exact absurd e (by decide)
      · split at e
        · assumption
        · split at e
          · exact absurd e (by decide)
          · split at e <;> exact absurd e (by decide)
    · intro e
      rw [e]
      decide
  have zero : t_wd f t l = false → vX12_isWord_29 Q l 0 μ := by
    intro e
    unfold vX12_isWord_29
    intro j
    cases j with
    | zero => exact trivial
    | succ j =>
      unfold vX12_isWord_32
      exact ⟨fun _ _ => k0 e, fun x => absurd rfl x⟩
  unfold vX12_isWord
  rw [T.2.2.2.1]
  refine ⟨fun c => zero (t_wd_no (fun x => c ((r1 _).2 x.1))), fun c l12 => ?_⟩
  have c := (r1 _).1 c
  have l5 := t_len5 l l12
  have el : (nI (ks_len.getD l 0)).toInt = (t_len l : Int) := t_nI (k := t_len l) (by omega)
  have es : (km_i μ 65 - km_i μ 64).toInt = (t.2.2 : Int) - t.2.1 := by
    have h1 := ok.1
    have h2 := ok.2
    rw [ki_sub (by rw [T.2.2.1, T.2.1]; omega) (by rw [T.2.2.1, T.2.1]; omega), T.2.2.1, T.2.1]
  refine ⟨fun d => zero (t_wd_no (fun x => d (ki_eq.2 ?_))), fun d => ?_⟩
  · rw [es, el]
    have h1 := ok.1
    have := x.2.1
    omega
  · rw [ki_eq, es, el] at d
    have loop : ∀ (j : Nat) (i : Int32) (q : Nat), i.toInt = (q : Int) → q ≤ t_len l → (∀ m, m < q → f (t.2.1 + m) = t_byt l m) → vX12_isWord_32 Q j l 1 i μ := by
      intro j
      induction j with
      | zero => intro _ _ _ _ _; exact trivial
      | succ j ih =>
        intro i q hi hq hm
        unfold vX12_isWord_32
        refine ⟨fun x => absurd x (by decide), fun _ _ => ⟨fun e _ => ?_, fun e _ _ _ => ?_⟩⟩
        · rw [ki_le, el, hi] at e
          refine k1 (t_wd_iff.2 ⟨c, by omega, fun m hm2 => hm m (by omega)⟩)
        · rw [ki_le, el, hi] at e
          have h1 := ok.1
          have h2 := ok.2
          have hp : (km_i μ 64 + i).toNatClampNeg = t.2.1 + q := by
            rw [ki_nat, ki_add (by rw [T.2.1, hi]; omega) (by rw [T.2.1, hi]; omega), T.2.1, hi]
            omega
          have eq : i.toNatClampNeg = q := by rw [ki_nat]; omega
          rw [hp, eq, h.2.2 (t.2.1 + q) (by omega)]
          refine ⟨fun r => ?_, fun r => ?_⟩
          · unfold vX12_isWord_68
            intro v1 _
            cases j with
            | zero => exact trivial
            | succ j =>
              unfold vX12_isWord_32
              exact ⟨fun _ _ => k0 (t_wd_no (fun x => r (x.2.2 q (by omega)).symm)), fun x => absurd rfl x⟩
          · unfold vX12_isWord_68
            intro v1 e1
            refine ih v1 (q + 1) ?_ (by omega) (fun m hm2 => ?_)
            · rw [e1, ki_add (by rw [hi, ki_z1]; omega) (by rw [hi, ki_z1]; omega), hi, ki_z1]
              omega
            · by_cases em : m = q
              · rw [em]; exact r.symm
              · exact hm m (by omega)
    unfold vX12_isWord_29
    intro j
    exact loop j 0 0 (by decide) (Nat.zero_le _) (fun m hm => absurd hm (Nat.not_lt_zero m))
/-- a sign is told by its kind -/
theorem vm_isSign {t : tk_T} {b : Int32} {μ : km_S} {Q : Int32 → km_S → Prop} (T : mT_ t μ) (hb : t_rk b = 3) (k1 : t.1 = b → Q 1 μ) (k0 : ¬ t.1 = b → Q 0 μ) : vX12_isSign b μ Q := by
  unfold vX12_isSign
  rw [T.2.2.2.1]
  refine ⟨fun c => k0 (fun e => c (by rw [e]; exact hb)), fun c => ?_⟩
  rw [T.2.2.2.2 c]
  exact ⟨k0, k1⟩
/-- a number's value -/
def t_num (f : Nat → Int32) : Nat → Nat → Int32 → Int32
  | 0, _, v => v
  | m + 1, s, v => t_num f m (s + 1) (v * 10 + f s - 48)
theorem vy_number {f : Nat → Int32} {n tk : Nat} {t : tk_T} {σ : kx_S} {Q : Int32 → kx_S → Prop} (h : ct_ f n tk σ) (T : cT_ t tk σ) (ok : t_ok n t) (kk : Q (t_num f (t.2.2 - t.2.1) t.2.1 0) σ) : vX10_numberValue tk σ Q := by
  have h5 := h.2.1
  have h1 := ok.1
  have h2 := ok.2
  have loop : ∀ (j : Nat) (i v : Int32) (p : Nat), i.toInt = (p : Int) → p ≤ t.2.2 → Q (t_num f (t.2.2 - p) p v) σ → vX10_numberValue_7 Q j tk v i σ := by
    intro j
    induction j with
    | zero => intro _ _ _ _ _ _; exact trivial
    | succ j ih =>
      intro i v p hi hp k
      unfold vX10_numberValue_7
      intro _
      refine ⟨fun c => ?_, fun c => ?_⟩
      · rw [ki_le, T.1, hi] at c
        rw [show t.2.2 - p = 0 by omega] at k
        exact k
      · rw [ki_le, T.1, hi] at c
        refine vy_byteAt h hi ?_
        intro v5 e5 v6 e6
        have eb : t_by f n p = f p := if_pos (by omega)
        refine ih v6 v5 (p + 1) ?_ (by omega) ?_
        · rw [e6, ki_add (by rw [hi, ki_z1]; omega) (by rw [hi, ki_z1]; omega), hi, ki_z1]
          omega
        · rw [e5, eb]
          rw [show t.2.2 - p = (t.2.2 - (p + 1)) + 1 by omega] at k
          exact k
  unfold vX10_numberValue
  rintro _ v8 rfl j
  exact loop j _ 0 t.2.1 T.2.1 h1 kk
end
section
/-! the grammar, told once for both: where the first fault lies, or the next token and the row of codes -/
abbrev pr_T : Type := Nat ⊕ (tk_T × List Int32)
def p_bind (r : pr_T) (k : tk_T → pr_T) : pr_T := match r with
  | .inl p => .inl p
  | .inr (t, cs) => match k t with
    | .inl p => .inl p
    | .inr (t2, ds) => .inr (t2, cs ++ ds)
theorem p_bind_inl {p : Nat} {k : tk_T → pr_T} : p_bind (.inl p) k = .inl p := rfl
theorem p_bind_l {t : tk_T} {cs : List Int32} {k : tk_T → pr_T} {p : Nat} (h : k t = .inl p) : p_bind (.inr (t, cs)) k = .inl p := by
  show (match k t with
    | .inl p => (.inl p : pr_T)
    | .inr (t2, ds) => .inr (t2, cs ++ ds)) = _
  rw [h]
theorem p_bind_r {t t2 : tk_T} {cs ds : List Int32} {k : tk_T → pr_T} (h : k t = .inr (t2, ds)) : p_bind (.inr (t, cs)) k = .inr (t2, cs ++ ds) := by
  show (match k t with
    | .inl p => (.inl p : pr_T)
    | .inr (t2, ds) => .inr (t2, cs ++ ds)) = _
  rw [h]
theorem p_bind_nil {t : tk_T} {k : tk_T → pr_T} : p_bind (.inr (t, [])) k = k t := by
  cases h : k t with
  | inl p => exact p_bind_l h
  | inr q => obtain ⟨t2, ds⟩ := q; exact p_bind_r h
theorem p_bind_unit {r : pr_T} {k : tk_T → pr_T} (h : ∀ t cs, r = .inr (t, cs) → k t = .inr (t, [])) : p_bind r k = r := by
  cases r with
  | inl p => rfl
  | inr q => obtain ⟨t, cs⟩ := q; rw [p_bind_r (h t cs rfl), List.append_nil]
theorem p_bind_assoc {r : pr_T} {k1 k2 : tk_T → pr_T} : p_bind (p_bind r k1) k2 = p_bind r (fun t => p_bind (k1 t) k2) := by
  cases r with
  | inl p => rfl
  | inr q =>
    obtain ⟨t, cs⟩ := q
    cases h : k1 t with
    | inl p =>
      rw [p_bind_l h]
      exact (p_bind_l (by show p_bind (k1 t) k2 = .inl p; rw [h]; rfl)).symm
    | inr q =>
      obtain ⟨t2, ds⟩ := q
      rw [p_bind_r h]
      cases h2 : k2 t2 with
      | inl p =>
        rw [p_bind_l h2]
        exact (p_bind_l (by show p_bind (k1 t) k2 = .inl p; rw [h, p_bind_l h2])).symm
      | inr q =>
        obtain ⟨t3, es⟩ := q
        rw [p_bind_r h2, List.append_assoc]
        exact (p_bind_r (by show p_bind (k1 t) k2 = .inr (t3, ds ++ es); rw [h, p_bind_r h2])).symm
def p_nm (f : Nat → Int32) (t : tk_T) : Int32 := if t_wd f t 0 = true then -1 else if t_wd f t 1 = true then -2 else if t_wd f t 2 = true then -3 else if t_wd f t 3 = true then -4 else if t_wd f t 4 = true then -5 else if t_wd f t 5 = true then -6 else if t_wd f t 6 = true then -7 else 0
def p_adv (f : Nat → Int32) (n : Nat) (t : tk_T) : tk_T := t_tok f n t.2.2
def p_sg (f : Nat → Int32) (n : Nat) (b : Int32) (t : tk_T) : pr_T := if t.1 = b then .inr (p_adv f n t, []) else .inl t.2.1
def p_part (f : Nat → Int32) (n : Nat) (re : tk_T → pr_T) (t : tk_T) : pr_T :=
  if t.1 = 2 then (if 6 < t.2.2 - t.2.1 then .inl t.2.1 else .inr (p_adv f n t, [t_num f (t.2.2 - t.2.1) t.2.1 0]))
  else if t.1 = 1 then (if p_nm f t = 0 then .inl t.2.1 else .inr (p_adv f n t, [p_nm f t]))
  else if t.1 = 40 then p_bind (re (p_adv f n t)) (p_sg f n 41)
  else .inl t.2.1
def p_put (v : Int32) (t : tk_T) : pr_T := .inr (t, [v])
def p_loop (f : Nat → Int32) (n : Nat) (one : tk_T → pr_T) (op : tk_T → Int32) : Nat → tk_T → pr_T
  | 0, t => .inr (t, [])
  | j + 1, t => if op t = 0 then .inr (t, []) else p_bind (p_bind (one (p_adv f n t)) (p_put (op t))) (p_loop f n one op j)
def p_opT (t : tk_T) : Int32 := if t.1 = 42 then -10 else if t.1 = 47 then -11 else 0
def p_opS (t : tk_T) : Int32 := if t.1 = 43 then -8 else if t.1 = 45 then -9 else 0
def p_opE (f : Nat → Int32) (t : tk_T) : Int32 := if t_wd f t 9 = true then -14 else if t_wd f t 10 = true then -15 else 0
def p_opC (t : tk_T) : Int32 := if t.1 = 60 then -12 else if t.1 = 61 then -13 else 0
def p_term (f : Nat → Int32) (n : Nat) (re : tk_T → pr_T) (t : tk_T) : pr_T := p_bind (p_part f n re t) (p_loop f n (p_part f n re) p_opT 500)
def p_sum (f : Nat → Int32) (n : Nat) (re : tk_T → pr_T) (t : tk_T) : pr_T := p_bind (p_term f n re t) (p_loop f n (p_term f n re) p_opS 500)
def p_cmp2 (f : Nat → Int32) (n : Nat) (re : tk_T → pr_T) (t : tk_T) : pr_T := if p_opC t = 0 then .inr (t, []) else p_bind (p_sum f n re (p_adv f n t)) (p_put (p_opC t))
def p_cmp (f : Nat → Int32) (n : Nat) (re : tk_T → pr_T) (t : tk_T) : pr_T := p_bind (p_sum f n re t) (p_cmp2 f n re)
def p_test (f : Nat → Int32) (n : Nat) (re : tk_T → pr_T) (t : tk_T) : pr_T := if t_wd f t 11 = true then p_bind (p_cmp f n re (p_adv f n t)) (p_put (-16)) else p_cmp f n re t
def p_expr (f : Nat → Int32) (n : Nat) : Nat → tk_T → pr_T
  | 0, t => .inl t.2.1
  | d + 1, t => p_bind (p_test f n (p_expr f n d) t) (p_loop f n (p_test f n (p_expr f n d)) (p_opE f) 500)
/-- a rule's expression and its end -/
def p_rule (f : Nat → Int32) (n : Nat) (i : Nat) (t : tk_T) : pr_T :=
  if t_wd f t 8 = true ∨ t_wd f t 7 = true then (if i = 12 then .inl t.2.1 else p_bind (p_expr f n 8 (p_adv f n t)) (p_sg f n 59)) else .inl t.2.1
/-- a text: the rules, each with whether it is a toll -/
abbrev pt_T : Type := Nat ⊕ List (Bool × List Int32)
def p_text (f : Nat → Int32) (n : Nat) : Nat → Nat → tk_T → pt_T
  | 0, _, _ => .inr []
  | j + 1, i, t => if t.1 = 0 then .inr [] else match p_rule f n i t with
    | .inl p => .inl p
    | .inr (t2, cs) => match p_text f n j (i + 1) t2 with
      | .inl p => .inl p
      | .inr rs => .inr ((t_wd f t 7, cs) :: rs)
/-! tokens of a text -/
def tt_ (f : Nat → Int32) (n : Nat) (t : tk_T) : Prop := ∃ p, p ≤ n ∧ t = t_tok f n p
theorem tt_ok {f : Nat → Int32} {n : Nat} {t : tk_T} (h : tt_ f n t) : t_ok n t := by
  obtain ⟨p, hp, rfl⟩ := h
  exact (t_tok_ok hp).1
theorem tt_adv {f : Nat → Int32} {n : Nat} {t : tk_T} (h : tt_ f n t) : tt_ f n (p_adv f n t) ∧ t.2.2 ≤ (p_adv f n t).2.1 := ⟨⟨t.2.2, (tt_ok h).2, rfl⟩, (t_tok_ok (tt_ok h).2).2⟩
theorem tt_pos {f : Nat → Int32} {n : Nat} {t : tk_T} (h : tt_ f n t) (k : ¬ t.1 = 0) : t.2.1 < t.2.2 := by
  obtain ⟨p, hp, rfl⟩ := h
  have h1 := t_end_ge (f := f) (k := 5) hp
  revert k
  unfold t_tok t_at
  generalize t_end f n 5 p = s at *
  show ¬ t_kd (t_by f n s) = 0 → s < (if t_kd (t_by f n s) = 1 ∨ t_kd (t_by f n s) = 2 then t_end f n (t_kd (t_by f n s)) s else min (s + 1) n)
  intro k
  have hs : s < n := by
    by_cases d : s < n
    · exact d
    · exfalso
      apply k
      unfold t_by
      rw [if_neg d]
      decide
  split
  · have e : t_kd (f s) = t_kd (t_by f n s) := by unfold t_by; rw [if_pos hs]
    rw [t_end_eq hs e]
    have := (t_end_ge (f := f) (k := t_kd (t_by f n s)) (show s + 1 ≤ n by omega)).1
    omega
  · omega
theorem t_run_in {f : Nat → Int32} {k : Int32} : ∀ (m p i : Nat), p ≤ i → i < t_run f k m p → t_kd (f i) = k := by
  intro m
  induction m with
  | zero => intro p i h1 h2; have h2 : i < p := h2; omega
  | succ m ih =>
    intro p i h1 h2
    have h2 : i < (if t_kd (f p) = k then t_run f k m (p + 1) else p) := h2
    by_cases c : t_kd (f p) = k
    · rw [if_pos c] at h2
      by_cases e : i = p
      · rw [e]; exact c
      · exact ih (p + 1) i (by omega) h2
    · rw [if_neg c] at h2
      omega
theorem tt_dig {f : Nat → Int32} {n : Nat} {t : tk_T} (h : tt_ f n t) (k : t.1 = 2) : ∀ i, t.2.1 ≤ i → i < t.2.2 → t_kd (f i) = 2 := by
  obtain ⟨p, hp, rfl⟩ := h
  revert k
  unfold t_tok t_at
  generalize t_end f n 5 p = s
  show t_kd (t_by f n s) = 2 → ∀ i, s ≤ i → i < (if t_kd (t_by f n s) = 1 ∨ t_kd (t_by f n s) = 2 then t_end f n (t_kd (t_by f n s)) s else min (s + 1) n) → t_kd (f i) = 2
  intro k i h1 h2
  rw [k, if_pos (.inr rfl)] at h2
  exact t_run_in (n - s) s i h1 h2
theorem t_kd_dig {b : Int32} (h : t_kd b = 2) : 48 ≤ b.toInt ∧ b.toInt ≤ 57 := by
  have z48 : (48 : Int32).toInt = 48 := by decide
  have z57 : (57 : Int32).toInt = 57 := by decide
  by_cases h2 : b < 48 ∨ 57 < b
  · exfalso
    by_cases h1 : b < 97 ∨ 122 < b
    · rw [t_kd28 h1 h2] at h
      split at h
      · exact absurd h (by decide)
      · split at h
        · exact absurd h (by decide)
        · split at h
          · next q => rw [h] at q; exact absurd q (by decide)
          · exact absurd h (by decide)
    · rw [t_kd1 h1] at h
      exact absurd h (by decide)
  · rw [ki_lt, ki_lt, z48, z57] at h2
    omega
theorem t_num_lo {f : Nat → Int32} : ∀ (m s : Nat) (v : Int32) (k : Nat), m + k ≤ 6 → 0 ≤ v.toInt → v.toInt < (10 ^ k : Nat) → (∀ i, s ≤ i → i < s + m → t_kd (f i) = 2) → 0 ≤ (t_num f m s v).toInt ∧ (t_num f m s v).toInt < 1000000 := by
  intro m
  induction m with
  | zero =>
    intro s v k hk h0 h1 _
    refine ⟨h0, ?_⟩
    have : 10 ^ k ≤ 10 ^ 6 := Nat.pow_le_pow_right (by decide) (by omega)
    show v.toInt < 1000000
    omega
  | succ m ih =>
    intro s v k hk h0 h1 hd
    have d := t_kd_dig (hd s (Nat.le_refl s) (by omega))
    have p6 : 10 ^ k ≤ 10 ^ 5 := Nat.pow_le_pow_right (by decide) (by omega)
    have ps : 10 ^ (k + 1) = 10 ^ k * 10 := Nat.pow_succ ..
    have z10 : (10 : Int32).toInt = 10 := by decide
    have z48 : (48 : Int32).toInt = 48 := by decide
    have e1 : (v * 10).toInt = v.toInt * 10 := by rw [ki_mul (by rw [z10]; omega) (by rw [z10]; omega), z10]
    have e2 : (v * 10 + f s).toInt = v.toInt * 10 + (f s).toInt := by rw [ki_add (by rw [e1]; omega) (by rw [e1]; omega), e1]
    have e3 : (v * 10 + f s - 48).toInt = v.toInt * 10 + (f s).toInt - 48 := by rw [ki_sub (by rw [e2, z48]; omega) (by rw [e2, z48]; omega), e2, z48]
    exact ih (s + 1) (v * 10 + f s - 48) (k + 1) (by omega) (by rw [e3]; omega) (by rw [e3, ps]; omega) (fun i a b => hd i (by omega) (by omega))
end
section
/-! the class's reader -/
theorem l_getD_r {L : List Int32} {v : Int32} : (L ++ [v]).getD L.length 0 = v := by
  rw [List.getD_eq_getElem?_getD, List.getElem?_append_right (Nat.le_refl _), Nat.sub_self]
  rfl
theorem l_getD_l {L M : List Int32} {i : Nat} (h : i < L.length) : (L ++ M).getD i 0 = L.getD i 0 := by
  rw [List.getD_eq_getElem?_getD, List.getElem?_append_left h, List.getD_eq_getElem?_getD]
def c0_ (f : Nat → Int32) (n rd tk ca tp tb : Nat) (σ : kx_S) : Prop := xr σ 112 rd = some tk ∧ xr σ 113 rd = some ca ∧ xn σ ca = 500 ∧ xr σ 192 tk = some tp ∧ xr σ 176 tp = some tb ∧ xn σ tb = 500 ∧ tb ≠ ca ∧ (∀ i, i < n → xai σ tb i = f i) ∧ n ≤ 500
/-- what reading leaves as it was -/
def rf_ (rd tk ca : Nat) (σ u : kx_S) : Prop := (∀ f a, ¬ (a = tk ∧ (f = 193 ∨ f = 194 ∨ f = 195 ∨ f = 196)) → ¬ (a = rd ∧ (f = 114 ∨ f = 115 ∨ f = 116)) → xi u f a = xi σ f a) ∧ u.1 = σ.1 ∧ u.2.2.1 = σ.2.2.1 ∧ u.2.2.2.1 = σ.2.2.2.1 ∧ u.2.2.2.2.1 = σ.2.2.2.2.1 ∧ (∀ a, a ≠ ca → xai u a = xai σ a) ∧ u.2.2.2.2.2.2 = σ.2.2.2.2.2.2
theorem rf_refl {rd tk ca : Nat} {σ : kx_S} : rf_ rd tk ca σ σ := ⟨fun _ _ _ _ => rfl, rfl, rfl, rfl, rfl, fun _ _ => rfl, rfl⟩
theorem rf_ck {rd tk ca : Nat} {σ u v : kx_S} (h : rf_ rd tk ca σ u) (k : ck_ tk u v) : rf_ rd tk ca σ v := by
  obtain ⟨k1, k2, k3⟩ := k
  refine ⟨fun g a h1 h2 => (k1 g a (fun q => h1 ⟨q.1, .inr q.2⟩)).trans (h.1 g a h1 h2), k2.trans h.2.1, ?_, ?_, ?_, fun a ha => ?_, ?_⟩
  · rw [k3]; exact h.2.2.1
  · rw [k3]; exact h.2.2.2.1
  · rw [k3]; exact h.2.2.2.2.1
  · refine Eq.trans ?_ (h.2.2.2.2.2.1 a ha)
    show v.2.2.2.2.2.1 a = u.2.2.2.2.2.1 a
    rw [k3]
  · rw [k3]; exact h.2.2.2.2.2.2
theorem rf_si {rd tk ca : Nat} {σ u : kx_S} {g a : Nat} {w : Int32} (h : rf_ rd tk ca σ u) (hf : (a = tk ∧ (g = 193 ∨ g = 194 ∨ g = 195 ∨ g = 196)) ∨ (a = rd ∧ (g = 114 ∨ g = 115 ∨ g = 116))) : rf_ rd tk ca σ (xsi u g a w) := by
  refine ⟨fun e b h1 h2 => ?_, h.2.1, h.2.2.1, h.2.2.2.1, h.2.2.2.2.1, h.2.2.2.2.2.1, h.2.2.2.2.2.2⟩
  refine Eq.trans ?_ (h.1 e b h1 h2)
  show (if e = g then va_up (u.2.1 g) a w else u.2.1 e) b = u.2.1 e b
  by_cases c : e = g
  · subst c
    rw [if_pos rfl, va_up_ne]
    intro q
    subst q
    exact hf.elim h1 h2
  · rw [if_neg c]
theorem rf_sai {rd tk ca : Nat} {σ u : kx_S} {i : Nat} {w : Int32} (h : rf_ rd tk ca σ u) : rf_ rd tk ca σ (xsai u ca i w) := by
  refine ⟨h.1, h.2.1, h.2.2.1, h.2.2.2.1, h.2.2.2.2.1, fun a ha => ?_, h.2.2.2.2.2.2⟩
  refine Eq.trans ?_ (h.2.2.2.2.2.1 a ha)
  show va_up u.2.2.2.2.2.1 ca _ a = u.2.2.2.2.2.1 a
  exact va_up_ne _ _ ha
def cX_ (n rd tk ca : Nat) (σ u : kx_S) : Prop := rf_ rd tk ca σ u ∧ (xi u 193 tk).toInt = (n : Int)
def cC_ (rd ca : Nat) (L : List Int32) (u : kx_S) : Prop := (xi u 114 rd).toInt = (L.length : Int) ∧ ∀ i, i < L.length → xai u ca i = L.getD i 0
def cq_ (f : Nat → Int32) (n rd tk ca : Nat) (σ : kx_S) (k : Nat) (L : List Int32) (t : tk_T) (u : kx_S) : Prop := cX_ n rd tk ca σ u ∧ xi u 115 rd = 0 ∧ cT_ t tk u ∧ tt_ f n t ∧ cC_ rd ca L u ∧ L.length + k ≤ t.2.1
def cF_ (n rd tk ca : Nat) (σ : kx_S) (p : Nat) (u : kx_S) : Prop := cX_ n rd tk ca σ u ∧ ¬ xi u 115 rd = 0 ∧ (xi u 116 rd).toInt = (p : Int)
def cr_ (f : Nat → Int32) (n rd tk ca : Nat) (σ : kx_S) (k : Nat) (L : List Int32) (r : pr_T) (u : kx_S) : Prop := match r with
  | .inl p => cF_ n rd tk ca σ p u
  | .inr (t, cs) => cq_ f n rd tk ca σ k (L ++ cs) t u
/-- a piece of the reader does a piece of the grammar -/
def cp_ (f : Nat → Int32) (n rd tk ca : Nat) (σ : kx_S) (V : kx_S → (kx_S → Prop) → Prop) (P : tk_T → pr_T) : Prop := ∀ (k : Nat) (L : List Int32) (t : tk_T) (u : kx_S) (Q : kx_S → Prop), cq_ f n rd tk ca σ k L t u → (∀ u', cr_ f n rd tk ca σ k L (P t) u' → Q u') → V u Q
theorem b_no {b : Bool} (h : b = false) : ¬ b = true := by rw [h]; decide
theorem p_bind_congr {t : tk_T} {cs : List Int32} {k k' : tk_T → pr_T} (h : k t = k' t) : p_bind (.inr (t, cs)) k = p_bind (.inr (t, cs)) k' := by
  cases e : k t with
  | inl p => rw [p_bind_l e, p_bind_l (by rw [← h]; exact e)]
  | inr q => obtain ⟨t2, ds⟩ := q; rw [p_bind_r e, p_bind_r (by rw [← h]; exact e)]
theorem p_loop_stop {f : Nat → Int32} {n : Nat} {one : tk_T → pr_T} {op : tk_T → Int32} {m : Nat} {t : tk_T} (h : op t = 0) : p_loop f n one op m t = .inr (t, []) := by
  cases m with
  | zero => rfl
  | succ m => exact if_pos h
theorem p_loop_go {f : Nat → Int32} {n : Nat} {one : tk_T → pr_T} {op : tk_T → Int32} {m : Nat} {t : tk_T} (h : ¬ op t = 0) : p_loop f n one op (m + 1) t = p_bind (p_bind (one (p_adv f n t)) (p_put (op t))) (p_loop f n one op m) := if_neg h
theorem t_kcE {t : tk_T} {b : Int32} (h2 : ¬ b = 2) (h3 : ¬ b = 3) : t_kc t = b ↔ t.1 = b := by
  unfold t_kc
  split
  · next h =>
    rw [h.1]
    exact ⟨fun e => absurd e.symm h3, fun e => absurd e.symm h2⟩
  · exact Iff.rfl
theorem t_kc2 {t : tk_T} : t_kc t = 2 ↔ t.1 = 2 ∧ ¬ 6 < t.2.2 - t.2.1 := by
  unfold t_kc
  split
  · next h => exact ⟨fun e => absurd e (by decide), fun e => absurd h.2 e.2⟩
  · next h => exact ⟨fun e => ⟨e, fun q => h ⟨e, q⟩⟩, fun e => e.1⟩
theorem t_kc3 {t : tk_T} (h : t_kc t = 3) : (t.1 = 2 ∧ 6 < t.2.2 - t.2.1) ∨ t.1 = 3 := by
  unfold t_kc at h
  split at h
  · next q => exact .inl q
  · exact .inr h
/-- what can begin a part -/
def fp_ (f : Nat → Int32) (t : tk_T) : Prop := (t.1 = 2 ∧ ¬ 6 < t.2.2 - t.2.1) ∨ (t.1 = 1 ∧ ¬ p_nm f t = 0) ∨ t.1 = 40
theorem p_part_no {f : Nat → Int32} {n : Nat} {R : tk_T → pr_T} {t : tk_T} (h : ¬ fp_ f t) : p_part f n R t = .inl t.2.1 := by
  unfold p_part
  split
  · next a =>
    split
    · rfl
    · next b => exact absurd (.inl ⟨a, b⟩) h
  · split
    · next a =>
      split
      · rfl
      · next b => exact absurd (.inr (.inl ⟨a, b⟩)) h
    · split
      · next a => exact absurd (.inr (.inr a)) h
      · rfl
theorem p_part_num {f : Nat → Int32} {n : Nat} {R : tk_T → pr_T} {t : tk_T} (h : t.1 = 2) (k : ¬ 6 < t.2.2 - t.2.1) : p_part f n R t = .inr (p_adv f n t, [t_num f (t.2.2 - t.2.1) t.2.1 0]) := (if_pos h).trans (if_neg k)
theorem p_part_name {f : Nat → Int32} {n : Nat} {R : tk_T → pr_T} {t : tk_T} (h : t.1 = 1) (k : ¬ p_nm f t = 0) : p_part f n R t = .inr (p_adv f n t, [p_nm f t]) := (if_neg (by rw [h]; decide)).trans ((if_pos h).trans (if_neg k))
theorem p_part_par {f : Nat → Int32} {n : Nat} {R : tk_T → pr_T} {t : tk_T} (h : t.1 = 40) : p_part f n R t = p_bind (R (p_adv f n t)) (p_sg f n 41) := (if_neg (by rw [h]; decide)).trans ((if_neg (by rw [h]; decide)).trans (if_pos h))
section
variable {f : Nat → Int32} {n rd tk ca tp tb : Nat} {σ : kx_S}
theorem cX_ref {u : kx_S} (h : cX_ n rd tk ca σ u) (g a : Nat) : xr u g a = xr σ g a := by
  show u.2.2.1 g a = σ.2.2.1 g a
  rw [h.1.2.2.1]
theorem cX_tk {u : kx_S} {a : Nat} (C : c0_ f n rd tk ca tp tb σ) (h : cX_ n rd tk ca σ u) (e : xr u 112 rd = some a) : tk = a := by
  rw [cX_ref h] at e
  exact Option.some.inj (C.1.symm.trans e)
theorem cX_ca {u : kx_S} {a : Nat} (C : c0_ f n rd tk ca tp tb σ) (h : cX_ n rd tk ca σ u) (e : xr u 113 rd = some a) : ca = a := by
  rw [cX_ref h] at e
  exact Option.some.inj (C.2.1.symm.trans e)
theorem cX_n {u : kx_S} (C : c0_ f n rd tk ca tp tb σ) (h : cX_ n rd tk ca σ u) : xn u ca = 500 := by
  show u.2.2.2.2.1 ca = 500
  rw [h.1.2.2.2.2.1]
  exact C.2.2.1
theorem cX_ct {u : kx_S} (C : c0_ f n rd tk ca tp tb σ) (h : cX_ n rd tk ca σ u) : ct_ f n tk u := by
  obtain ⟨c1, c2, c3, c4, c5, c6, c7, c8, c9⟩ := C
  refine ⟨h.2, c9, tp, tb, by rw [cX_ref h]; exact c4, by rw [cX_ref h]; exact c5, ?_, fun i hi => ?_⟩
  · show u.2.2.2.2.1 tb = 500
    rw [h.1.2.2.2.2.1]
    exact c6
  · rw [h.1.2.2.2.2.2.1 tb c7]
    exact c8 i hi
theorem cr_X {k : Nat} {L : List Int32} {r : pr_T} {u : kx_S} (h : cr_ f n rd tk ca σ k L r u) : cX_ n rd tk ca σ u := by
  cases r with
  | inl p => exact h.1
  | inr q => exact h.1
theorem cq_le {k : Nat} {L : List Int32} {t : tk_T} {u : kx_S} (h : cq_ f n rd tk ca σ (k + 1) L t u) : cq_ f n rd tk ca σ k L t u := ⟨h.1, h.2.1, h.2.2.1, h.2.2.2.1, h.2.2.2.2.1, by have := h.2.2.2.2.2; omega⟩
theorem cr_pre {k : Nat} {L cs : List Int32} {t : tk_T} {X : tk_T → pr_T} {u : kx_S} (h : cr_ f n rd tk ca σ k (L ++ cs) (X t) u) : cr_ f n rd tk ca σ k L (p_bind (.inr (t, cs)) X) u := by
  cases e : X t with
  | inl p =>
    rw [p_bind_l e]
    rw [e] at h
    exact h
  | inr q =>
    obtain ⟨t2, ds⟩ := q
    rw [p_bind_r e]
    rw [e] at h
    have h : cq_ f n rd tk ca σ k ((L ++ cs) ++ ds) t2 u := h
    show cq_ f n rd tk ca σ k (L ++ (cs ++ ds)) t2 u
    rw [← List.append_assoc]
    exact h
theorem vc_adv0 {k : Nat} {L : List Int32} {t : tk_T} {u : kx_S} {Q : kx_S → Prop} (C : c0_ f n rd tk ca tp tb σ) (hX : cX_ n rd tk ca σ u) (h0 : xi u 115 rd = 0) (T : cT_ t tk u) (ht : tt_ f n t) (hc : cC_ rd ca L u) (hl : L.length + k ≤ t.2.2) (kk : ∀ u', cq_ f n rd tk ca σ k L (p_adv f n t) u' → Q u') : vX10_advance tk u Q := by
  refine vy_advance (p := t.2.2) (cX_ct C hX) T.1 (tt_ok ht).2 (fun u' c _ T' => kk u' ⟨⟨rf_ck hX.1 c, ?_⟩, ?_, T', (tt_adv ht).1, ⟨?_, fun i hi => ?_⟩, ?_⟩)
  · rw [c.1 193 tk (by rintro ⟨_, h | h | h⟩ <;> exact absurd h (by decide))]
    exact hX.2
  · rw [c.1 115 rd (by rintro ⟨_, h | h | h⟩ <;> exact absurd h (by decide))]
    exact h0
  · rw [c.1 114 rd (by rintro ⟨_, h | h | h⟩ <;> exact absurd h (by decide))]
    exact hc.1
  · refine Eq.trans ?_ (hc.2 i hi)
    show u'.2.2.2.2.2.1 ca i = u.2.2.2.2.2.1 ca i
    rw [c.2.2]
  · have := (tt_adv ht).2
    omega
theorem vc_adv1 {k : Nat} {L : List Int32} {t : tk_T} {u : kx_S} {Q : kx_S → Prop} (C : c0_ f n rd tk ca tp tb σ) (h : cq_ f n rd tk ca σ k L t u) (hk : ¬ t.1 = 0) (kk : ∀ u', cq_ f n rd tk ca σ (k + 1) L (p_adv f n t) u' → Q u') : vX10_advance tk u Q :=
  vc_adv0 C h.1 h.2.1 h.2.2.1 h.2.2.2.1 h.2.2.2.2.1 (by have := tt_pos h.2.2.2.1 hk; have := h.2.2.2.2.2; omega) kk
theorem vc_putG {v : Int32} {u : kx_S} {Q : kx_S → Prop} (C : c0_ f n rd tk ca tp tb σ) (hX : cX_ n rd tk ca σ u) (k0 : 500 ≤ (xi u 114 rd).toInt → Q u) (k1 : ¬ 500 ≤ (xi u 114 rd).toInt → Q (xsi (xsai u ca (xi u 114 rd).toNatClampNeg v) 114 rd (xi u 114 rd + 1))) : vX5_put rd v u Q := by
  unfold vX5_put
  intro _ a2 e2 _
  obtain rfl := cX_ca C hX e2
  have z5 : (nI 500).toInt = 500 := by decide
  rw [cX_n C hX]
  refine ⟨fun c => k0 ?_, fun c => ?_⟩
  · rw [ki_le, z5] at c
    exact c
  · intro a6 e6 _ _
    obtain rfl := cX_ca C hX e6
    rintro σ10 rfl σ14 rfl
    refine k1 ?_
    rw [ki_le, z5] at c
    exact c
theorem vc_put {k : Nat} {L : List Int32} {r : pr_T} {v : Int32} {u : kx_S} {Q : kx_S → Prop} (C : c0_ f n rd tk ca tp tb σ) (h : cr_ f n rd tk ca σ (k + 1) L r u) (kk : ∀ u', cr_ f n rd tk ca σ k L (p_bind r (p_put v)) u' → Q u') : vX5_put rd v u Q := by
  cases r with
  | inl p => exact vc_putG C h.1 (fun _ => kk u h) (fun _ => kk _ ⟨⟨rf_si (rf_sai h.1.1) (.inr ⟨rfl, .inl rfl⟩), h.1.2⟩, h.2.1, h.2.2⟩)
  | inr q =>
    obtain ⟨t, cs⟩ := q
    have h : cq_ f n rd tk ca σ (k + 1) (L ++ cs) t u := h
    obtain ⟨hX, h0, T, ht, hc, hl⟩ := h
    have ok := tt_ok ht
    have h5 := C.2.2.2.2.2.2.2.2
    have o1 := ok.1
    have o2 := ok.2
    refine vc_putG C hX (fun c => ?_) (fun c => kk _ ?_)
    · rw [hc.1] at c
      omega
    · show cq_ f n rd tk ca σ k (L ++ (cs ++ [v])) t _
      rw [← List.append_assoc]
      refine ⟨⟨rf_si (rf_sai hX.1) (.inr ⟨rfl, .inl rfl⟩), hX.2⟩, h0, T, ht, ⟨?_, fun i hi => ?_⟩, ?_⟩
      · show (va_up (u.2.1 114) rd (xi u 114 rd + 1) rd).toInt = _
        rw [va_up_self, ki_add (by rw [hc.1, ki_z1]; omega) (by rw [hc.1, ki_z1]; omega), hc.1, ki_z1, List.length_append, List.length_append]
        simp
      · show va_up u.2.2.2.2.2.1 ca (upd (u.2.2.2.2.2.1 ca) (xi u 114 rd).toNatClampNeg v) ca i = _
        rw [va_up_self]
        have ei : (xi u 114 rd).toNatClampNeg = (L ++ cs).length := by rw [ki_nat, hc.1]; omega
        rw [ei]
        have hi' : i < (L ++ cs).length + 1 := by rw [List.length_append] at hi; exact hi
        by_cases c2 : i = (L ++ cs).length
        · rw [c2]
          refine (w_updS).trans ?_
          exact l_getD_r.symm
        · refine (w_updN c2).trans ?_
          rw [l_getD_l (by omega)]
          exact hc.2 i (by omega)
      · rw [List.length_append]
        show (L ++ cs).length + 1 + k ≤ t.2.1
        omega
theorem vc_fail {k : Nat} {L : List Int32} {t : tk_T} {v : Int32} {u : kx_S} {Q : kx_S → Prop} (C : c0_ f n rd tk ca tp tb σ) (h : cq_ f n rd tk ca σ k L t u) (hv : ¬ v = 0) (kk : ∀ u', cF_ n rd tk ca σ t.2.1 u' → Q u') : vX5_fail rd v u Q := by
  unfold vX5_fail
  intro _
  refine ⟨fun c => absurd h.2.1 c, fun _ => ?_⟩
  rintro σ3 rfl a5 e5 _ σ8 rfl
  have e5 : xr u 112 rd = some a5 := e5
  obtain rfl := cX_tk C h.1 e5
  refine kk _ ⟨⟨rf_si (rf_si h.1.1 (.inr ⟨rfl, .inr (.inl rfl)⟩)) (.inr ⟨rfl, .inr (.inr rfl)⟩), h.1.2⟩, ?_, ?_⟩
  · show ¬ va_up (u.2.1 115) rd v rd = 0
    rw [va_up_self]
    exact hv
  · show (va_up (u.2.1 116) rd (xi u 195 tk) rd).toInt = _
    rw [va_up_self]
    exact h.2.2.1.2.1
theorem vc_pass {k : Nat} {L : List Int32} {r : pr_T} {b : Int32} {u : kx_S} {Q : kx_S → Prop} (C : c0_ f n rd tk ca tp tb σ) (hb : ¬ b = 2 ∧ ¬ b = 3 ∧ ¬ b = 0) (h : cr_ f n rd tk ca σ k L r u) (kk : ∀ u', cr_ f n rd tk ca σ k L (p_bind r (p_sg f n b)) u' → Q u') : vX5_pass rd b u Q := by
  unfold vX5_pass
  intro _
  cases r with
  | inl p => exact ⟨fun c => absurd c h.2.1, fun _ => kk u h⟩
  | inr q =>
    obtain ⟨t, cs⟩ := q
    have h : cq_ f n rd tk ca σ k (L ++ cs) t u := h
    refine ⟨fun c => ?_, fun c => absurd h.2.1 c⟩
    intro a3 e3 _
    obtain rfl := cX_tk C h.1 e3
    rw [h.2.2.1.2.2]
    refine ⟨fun d => ?_, fun d => ?_⟩
    · have e := (t_kcE hb.1 hb.2.1).1 d
      intro a7 e7 _
      obtain rfl := cX_tk C h.1 e7
      refine vc_adv1 C h (by rw [e]; exact hb.2.2) (fun u' h' => kk u' ?_)
      refine cr_pre ?_
      rw [show p_sg f n b t = .inr (p_adv f n t, []) from if_pos e]
      show cq_ f n rd tk ca σ k ((L ++ cs) ++ []) _ u'
      rw [List.append_nil]
      exact cq_le h'
    · have e : ¬ t.1 = b := fun q => d ((t_kcE hb.1 hb.2.1).2 q)
      refine vc_fail C h (by decide) (fun u' h' => kk u' (cr_pre ?_))
      rw [show p_sg f n b t = .inl t.2.1 from if_neg e]
      exact h'
theorem vc_isWord {k : Nat} {L : List Int32} {t : tk_T} {l : Nat} {u : kx_S} {Q : Int32 → kx_S → Prop} (C : c0_ f n rd tk ca tp tb σ) (h : cq_ f n rd tk ca σ k L t u) (k1 : t_wd f t l = true → Q 1 u) (k0 : t_wd f t l = false → Q 0 u) : vX10_isWord tk l u Q := vy_isWord (cX_ct C h.1) h.2.2.1 (tt_ok h.2.2.2.1) k1 k0
theorem vc_name {k : Nat} {L : List Int32} {t : tk_T} {u : kx_S} {Q : Int32 → kx_S → Prop} (C : c0_ f n rd tk ca tp tb σ) (h : cq_ f n rd tk ca σ k L t u) (kk : Q (p_nm f t) u) : vX5_codeOfName rd u Q := by
  unfold vX5_codeOfName
  unfold p_nm at kk
  intro _ a0 e0 _
  obtain rfl := cX_tk C h.1 e0
  refine vc_isWord C h (fun w => ⟨fun x => absurd x (by decide), fun _ => ?_⟩) (fun w0 => ⟨fun _ => ?_, fun x => absurd rfl x⟩)
  · rw [if_pos w] at kk; exact kk
  intro _ a1 e1 _
  obtain rfl := cX_tk C h.1 e1
  refine vc_isWord C h (fun w => ⟨fun x => absurd x (by decide), fun _ => ?_⟩) (fun w1 => ⟨fun _ => ?_, fun x => absurd rfl x⟩)
  · rw [if_neg (b_no w0)] at kk; rw [if_pos w] at kk; exact kk
  intro _ a2 e2 _
  obtain rfl := cX_tk C h.1 e2
  refine vc_isWord C h (fun w => ⟨fun x => absurd x (by decide), fun _ => ?_⟩) (fun w2 => ⟨fun _ => ?_, fun x => absurd rfl x⟩)
  · rw [if_neg (b_no w0)] at kk; rw [if_neg (b_no w1)] at kk; rw [if_pos w] at kk; exact kk
  intro _ a3 e3 _
  obtain rfl := cX_tk C h.1 e3
  refine vc_isWord C h (fun w => ⟨fun x => absurd x (by decide), fun _ => ?_⟩) (fun w3 => ⟨fun _ => ?_, fun x => absurd rfl x⟩)
  · rw [if_neg (b_no w0)] at kk; rw [if_neg (b_no w1)] at kk; rw [if_neg (b_no w2)] at kk; rw [if_pos w] at kk; exact kk
  intro _ a4 e4 _
  obtain rfl := cX_tk C h.1 e4
  refine vc_isWord C h (fun w => ⟨fun x => absurd x (by decide), fun _ => ?_⟩) (fun w4 => ⟨fun _ => ?_, fun x => absurd rfl x⟩)
  · rw [if_neg (b_no w0)] at kk; rw [if_neg (b_no w1)] at kk; rw [if_neg (b_no w2)] at kk; rw [if_neg (b_no w3)] at kk; rw [if_pos w] at kk; exact kk
  intro _ a5 e5 _
  obtain rfl := cX_tk C h.1 e5
  refine vc_isWord C h (fun w => ⟨fun x => absurd x (by decide), fun _ => ?_⟩) (fun w5 => ⟨fun _ => ?_, fun x => absurd rfl x⟩)
  · rw [if_neg (b_no w0)] at kk; rw [if_neg (b_no w1)] at kk; rw [if_neg (b_no w2)] at kk; rw [if_neg (b_no w3)] at kk; rw [if_neg (b_no w4)] at kk; rw [if_pos w] at kk; exact kk
  intro _ a6 e6 _
  obtain rfl := cX_tk C h.1 e6
  refine vc_isWord C h (fun w => ⟨fun x => absurd x (by decide), fun _ => ?_⟩) (fun w6 => ⟨fun _ => ?_, fun x => absurd rfl x⟩)
  · rw [if_neg (b_no w0)] at kk; rw [if_neg (b_no w1)] at kk; rw [if_neg (b_no w2)] at kk; rw [if_neg (b_no w3)] at kk; rw [if_neg (b_no w4)] at kk; rw [if_neg (b_no w5)] at kk; rw [if_pos w] at kk; exact kk
  rw [if_neg (b_no w0)] at kk; rw [if_neg (b_no w1)] at kk; rw [if_neg (b_no w2)] at kk; rw [if_neg (b_no w3)] at kk; rw [if_neg (b_no w4)] at kk; rw [if_neg (b_no w5)] at kk; rw [if_neg (b_no w6)] at kk; exact kk
theorem vc_fop {k : Nat} {L : List Int32} {t : tk_T} {u : kx_S} {Q : Int32 → kx_S → Prop} (C : c0_ f n rd tk ca tp tb σ) (h : cq_ f n rd tk ca σ k L t u) (k0 : fp_ f t → Q 0 u) (k1 : ¬ fp_ f t → ∀ v, ¬ v = 0 → Q v u) : vX5_faultOfPart rd u Q := by
  unfold vX5_faultOfPart
  intro _ a2 e2 _
  obtain rfl := cX_tk C h.1 e2
  rintro v5 rfl
  rw [h.2.2.1.2.2]
  have no : ∀ (P : Prop), ¬ t.1 = 2 → ¬ t.1 = 1 → ¬ t.1 = 40 → ¬ fp_ f t := by
    rintro _ a b c (q | q | q)
    · exact a q.1
    · exact b q.1
    · exact c q
  refine ⟨fun c => ?_, fun c => k0 (.inl (t_kc2.1 c)), fun c => ?_, fun c => k0 (.inr (.inr ((t_kcE (by decide) (by decide)).1 c))), fun c1 c2 c3 c4 => ?_⟩
  · have e := t_kc1.1 c
    refine vc_name C h ⟨fun d => k0 (.inr (.inl ⟨e, d⟩)), fun d => k1 ?_ 3 (by decide)⟩
    rintro (q | q | q)
    · rw [e] at q; exact absurd q.1 (by decide)
    · exact q.2 d
    · rw [e] at q; exact absurd q (by decide)
  · refine k1 ?_ 2 (by decide)
    rcases t_kc3 c with q | q
    · rintro (r | r | r)
      · exact r.2 q.2
      · rw [q.1] at r; exact absurd r.1 (by decide)
      · rw [q.1] at r; exact absurd r (by decide)
    · exact no True (by rw [q]; decide) (by rw [q]; decide) (by rw [q]; decide)
  · refine k1 ?_ 1 (by decide)
    rintro (q | q | q)
    · exact c2 (t_kc2.2 q)
    · exact c1 (t_kc1.2 q.1)
    · exact c4 ((t_kcE (by decide) (by decide)).2 q)
theorem vc_part78 {re : Nat → Int32 → kx_S → (kx_S → Prop) → Prop} {k : Nat} {L : List Int32} {t : tk_T} {v : Int32} {u : kx_S} {Q : kx_S → Prop} (C : c0_ f n rd tk ca tp tb σ) (h : cq_ f n rd tk ca σ k L t u) (hk : ¬ t.1 = 0) (kk : ∀ u', cq_ f n rd tk ca σ k (L ++ [v]) (p_adv f n t) u' → Q u') : vX5_readPart_78 re Q rd v rd u := by
  unfold vX5_readPart_78
  intro _
  obtain ⟨hX, h0, T, ht, hc, hl⟩ := h
  have ok := tt_ok ht
  have h5 := C.2.2.2.2.2.2.2.2
  have o1 := ok.1
  have o2 := ok.2
  have o3 := tt_pos ht hk
  refine vc_putG C hX (fun c => ?_) (fun c => ?_)
  · rw [hc.1] at c
    omega
  · intro _ a4 e4 _
    have e4 : xr u 112 rd = some a4 := e4
    obtain rfl := cX_tk C hX e4
    refine vc_adv0 (L := L ++ [v]) (k := k) (t := t) C ⟨rf_si (rf_sai hX.1) (.inr ⟨rfl, .inl rfl⟩), hX.2⟩ h0 T ht ⟨?_, fun i hi => ?_⟩ ?_ (fun u' h' => kk u' h')
    · show (va_up (u.2.1 114) rd (xi u 114 rd + 1) rd).toInt = _
      rw [va_up_self, ki_add (by rw [hc.1, ki_z1]; omega) (by rw [hc.1, ki_z1]; omega), hc.1, ki_z1, List.length_append]
      simp
    · show va_up u.2.2.2.2.2.1 ca (upd (u.2.2.2.2.2.1 ca) (xi u 114 rd).toNatClampNeg v) ca i = _
      rw [va_up_self]
      have ei : (xi u 114 rd).toNatClampNeg = L.length := by rw [ki_nat, hc.1]; omega
      rw [ei]
      have hi' : i < L.length + 1 := by rw [List.length_append] at hi; exact hi
      by_cases c2 : i = L.length
      · rw [c2]
        refine (w_updS).trans ?_
        exact l_getD_r.symm
      · refine (w_updN c2).trans ?_
        rw [l_getD_l (by omega)]
        exact hc.2 i (by omega)
    · rw [List.length_append]
      show L.length + 1 + k ≤ t.2.2
      omega
theorem vc_part {re : Nat → Int32 → kx_S → (kx_S → Prop) → Prop} {l1 : Int32} {R : tk_T → pr_T} (C : c0_ f n rd tk ca tp tb σ) (hre : cp_ f n rd tk ca σ (fun u Q => re rd (l1 + 1) u Q) R) : cp_ f n rd tk ca σ (fun u Q => vX5_readPart re rd l1 u Q) (p_part f n R) := by
  intro k L t u Q h kk
  show vX5_readPart re rd l1 u Q
  unfold vX5_readPart
  intro _
  refine vc_fop C h (fun ok => ⟨fun _ => ?_, fun x => absurd rfl x⟩) (fun no v hv => ⟨fun x => absurd x hv, fun _ _ => ?_⟩)
  · intro _ a13 e13 _
    obtain rfl := cX_tk C h.1 e13
    rw [h.2.2.1.2.2]
    refine ⟨fun c => ?_, fun c => ?_⟩
    · have c40 : ¬ t.1 = 40 := fun q => c ((t_kcE (by decide) (by decide)).2 q)
      intro a17 e17 _
      obtain rfl := cX_tk C h.1 e17
      rw [h.2.2.1.2.2]
      refine ⟨fun d => ?_, fun d => ?_⟩
      · have e : t.1 = 1 ∧ ¬ p_nm f t = 0 := by
          rcases ok with q | q | q
          · exact absurd (t_kc2.2 q) d
          · exact q
          · exact absurd q c40
        refine vc_name C h (vc_part78 C h (by rw [e.1]; decide) (fun u' h' => kk u' ?_))
        rw [p_part_name e.1 e.2]
        exact h'
      · have e := t_kc2.1 d
        intro a23 e23 _
        obtain rfl := cX_tk C h.1 e23
        refine vy_number (cX_ct C h.1) h.2.2.1 (tt_ok h.2.2.2.1) (vc_part78 C h (by rw [e.1]; decide) (fun u' h' => kk u' ?_))
        rw [p_part_num e.1 e.2]
        exact h'
    · have e := (t_kcE (by decide) (by decide)).1 c
      intro a28 e28 _
      obtain rfl := cX_tk C h.1 e28
      refine vc_adv1 C h (by rw [e]; decide) (fun u1 h1 => ?_)
      intro _
      refine hre k L (p_adv f n t) u1 _ (cq_le h1) (fun u2 h2 => ?_)
      intro _
      refine vc_pass C ⟨by decide, by decide, by decide⟩ h2 (fun u3 h3 => kk u3 ?_)
      rw [p_part_par e]
      exact h3
  · refine vc_fail C h hv (fun u' h' => kk u' ?_)
    rw [p_part_no no]
    exact h'

theorem p_opT0 {t : tk_T} (h1 : ¬ t_kc t = 42) (h2 : ¬ t_kc t = 47) : p_opT t = 0 := by
  unfold p_opT
  rw [if_neg (fun q => h1 ((t_kcE (by decide) (by decide)).2 q)), if_neg (fun q => h2 ((t_kcE (by decide) (by decide)).2 q))]
theorem vc_loopT {re : Nat → Int32 → kx_S → (kx_S → Prop) → Prop} {l1 : Int32} {R : tk_T → pr_T} {k : Nat} {L : List Int32} {Q : kx_S → Prop} (C : c0_ f n rd tk ca tp tb σ) (h1 : cp_ f n rd tk ca σ (fun u Q => vX5_readPart re rd l1 u Q) (p_part f n R)) : ∀ (j m : Nat) (i : Int32) (r : pr_T) (u : kx_S), i.toInt = 500 - (m : Int) → m ≤ 500 → cr_ f n rd tk ca σ k L r u → (∀ u', cr_ f n rd tk ca σ k L (p_bind r (p_loop f n (p_part f n R) p_opT m)) u' → Q u') → vX5_readTerm_7 re Q j rd l1 i u := by
  intro j
  induction j with
  | zero => intro _ _ _ _ _ _ _ _; exact trivial
  | succ j ih =>
    intro m i r u hi hm h kk
    unfold vX5_readTerm_7
    have z5 : (500 : Int32).toInt = 500 := by decide
    cases r with
    | inl p => exact ⟨fun _ => kk u h, fun _ _ => ⟨fun _ => kk u h, fun c => absurd c h.2.1⟩⟩
    | inr q =>
      obtain ⟨t, cs⟩ := q
      have h : cq_ f n rd tk ca σ k (L ++ cs) t u := h
      refine ⟨fun c => ?_, fun c _ => ⟨fun d => absurd h.2.1 d, fun _ => ?_⟩⟩
      · rw [ki_le, z5, hi] at c
        have : m = 0 := by omega
        subst this
        refine kk u (cr_pre ?_)
        show cq_ f n rd tk ca σ k ((L ++ cs) ++ []) t u
        rw [List.append_nil]
        exact h
      · rw [ki_le, z5, hi] at c
        obtain ⟨m, rfl⟩ : ∃ q, m = q + 1 := ⟨m - 1, by omega⟩
        intro a15 e15 _
        obtain rfl := cX_tk C h.1 e15
        rintro v18 rfl
        rw [h.2.2.1.2.2]
        have go : ∀ (l3 v : Int32), t.1 = l3 → (l3 = 42 ∧ v = (-10) ∨ l3 = 47 ∧ v = (-11)) → vX5_readTerm_42 re (vX5_readTerm_7 re Q j) Q rd l1 i l3 u := by
          intro l3 v e hv
          have hop : p_opT t = v := by
            unfold p_opT
            rcases hv with ⟨x, y⟩ | ⟨x, y⟩
            · rw [if_pos (e.trans x), y]
            · rw [if_neg (by rw [e, x]; decide), if_pos (e.trans x), y]
          have hv0 : ¬ v = 0 := by rcases hv with ⟨_, y⟩ | ⟨_, y⟩ <;> (rw [y]; decide)
          have ht : ¬ t.1 = 0 := by rw [e]; rcases hv with ⟨x, _⟩ | ⟨x, _⟩ <;> (rw [x]; decide)
          unfold vX5_readTerm_42
          intro _ a5 e5 _
          obtain rfl := cX_tk C h.1 e5
          refine vc_adv1 C h ht (fun u1 g1 => ?_)
          intro _
          refine h1 (k + 1) (L ++ cs) (p_adv f n t) u1 _ g1 (fun u2 g2 => ?_)
          have nxt : vX5_readTerm_68 re (vX5_readTerm_7 re Q j) Q rd l1 i v rd u2 := by
            unfold vX5_readTerm_68
            intro _
            refine vc_put C g2 (fun u3 g3 => ?_)
            intro v3 e3
            refine ih m v3 (p_bind (.inr (t, cs)) (fun t => p_bind (p_part f n R (p_adv f n t)) (p_put v))) u3 ?_ (by omega) (cr_pre g3) (fun u' h' => kk u' ?_)
            · rw [e3, ki_add (by rw [hi, ki_z1]; omega) (by rw [hi, ki_z1]; omega), hi, ki_z1]
              omega
            · rw [p_bind_assoc] at h'
              rw [p_bind_congr (k' := fun t => p_bind (p_bind (p_part f n R (p_adv f n t)) (p_put v)) (p_loop f n (p_part f n R) p_opT m)) (by rw [p_loop_go (by rw [hop]; exact hv0), hop])]
              exact h'
          refine ⟨fun x => ?_, fun x => ?_⟩
          · rcases hv with ⟨y, _⟩ | ⟨_, y⟩
            · exact absurd y x
            · rw [y] at nxt; exact nxt
          · rcases hv with ⟨_, y⟩ | ⟨y, _⟩
            · rw [y] at nxt; exact nxt
            · rw [x] at y; exact absurd y (by decide)
        refine ⟨fun d => ?_, fun d => ⟨fun e => ?_, fun e => ?_⟩⟩
        · have e1 := (t_kcE (b := 42) (by decide) (by decide)).1 d
          rw [d]
          exact go 42 (-10) e1 (.inl ⟨rfl, rfl⟩)
        · have e1 := (t_kcE (b := 47) (by decide) (by decide)).1 e
          rw [e]
          exact go 47 (-11) e1 (.inr ⟨rfl, rfl⟩)
        · refine kk u (cr_pre ?_)
          rw [p_loop_stop (p_opT0 d e)]
          show cq_ f n rd tk ca σ k ((L ++ cs) ++ []) t u
          rw [List.append_nil]
          exact h
theorem vc_term {re : Nat → Int32 → kx_S → (kx_S → Prop) → Prop} {l1 : Int32} {R : tk_T → pr_T} (C : c0_ f n rd tk ca tp tb σ) (hre : cp_ f n rd tk ca σ (fun u Q => re rd (l1 + 1) u Q) R) : cp_ f n rd tk ca σ (fun u Q => vX5_readTerm re rd l1 u Q) (p_term f n R) := by
  intro k L t u Q h kk
  show vX5_readTerm re rd l1 u Q
  unfold vX5_readTerm
  intro _
  refine vc_part C hre k L t u _ h (fun u1 g1 => ?_)
  intro j
  exact vc_loopT C (vc_part C hre) j 500 0 _ u1 (by decide) (Nat.le_refl _) g1 kk

theorem p_opS0 {t : tk_T} (h1 : ¬ t_kc t = 43) (h2 : ¬ t_kc t = 45) : p_opS t = 0 := by
  unfold p_opS
  rw [if_neg (fun q => h1 ((t_kcE (by decide) (by decide)).2 q)), if_neg (fun q => h2 ((t_kcE (by decide) (by decide)).2 q))]
theorem vc_loopS {re : Nat → Int32 → kx_S → (kx_S → Prop) → Prop} {l1 : Int32} {R : tk_T → pr_T} {k : Nat} {L : List Int32} {Q : kx_S → Prop} (C : c0_ f n rd tk ca tp tb σ) (h1 : cp_ f n rd tk ca σ (fun u Q => vX5_readTerm re rd l1 u Q) (p_term f n R)) : ∀ (j m : Nat) (i : Int32) (r : pr_T) (u : kx_S), i.toInt = 500 - (m : Int) → m ≤ 500 → cr_ f n rd tk ca σ k L r u → (∀ u', cr_ f n rd tk ca σ k L (p_bind r (p_loop f n (p_term f n R) p_opS m)) u' → Q u') → vX5_readSum_7 re Q j rd l1 i u := by
  intro j
  induction j with
  | zero => intro _ _ _ _ _ _ _ _; exact trivial
  | succ j ih =>
    intro m i r u hi hm h kk
    unfold vX5_readSum_7
    have z5 : (500 : Int32).toInt = 500 := by decide
    cases r with
    | inl p => exact ⟨fun _ => kk u h, fun _ _ => ⟨fun _ => kk u h, fun c => absurd c h.2.1⟩⟩
    | inr q =>
      obtain ⟨t, cs⟩ := q
      have h : cq_ f n rd tk ca σ k (L ++ cs) t u := h
      refine ⟨fun c => ?_, fun c _ => ⟨fun d => absurd h.2.1 d, fun _ => ?_⟩⟩
      · rw [ki_le, z5, hi] at c
        have : m = 0 := by omega
        subst this
        refine kk u (cr_pre ?_)
        show cq_ f n rd tk ca σ k ((L ++ cs) ++ []) t u
        rw [List.append_nil]
        exact h
      · rw [ki_le, z5, hi] at c
        obtain ⟨m, rfl⟩ : ∃ q, m = q + 1 := ⟨m - 1, by omega⟩
        intro a15 e15 _
        obtain rfl := cX_tk C h.1 e15
        rintro v18 rfl
        rw [h.2.2.1.2.2]
        have go : ∀ (l3 v : Int32), t.1 = l3 → (l3 = 43 ∧ v = (-8) ∨ l3 = 45 ∧ v = (-9)) → vX5_readSum_42 re (vX5_readSum_7 re Q j) Q rd l1 i l3 u := by
          intro l3 v e hv
          have hop : p_opS t = v := by
            unfold p_opS
            rcases hv with ⟨x, y⟩ | ⟨x, y⟩
            · rw [if_pos (e.trans x), y]
            · rw [if_neg (by rw [e, x]; decide), if_pos (e.trans x), y]
          have hv0 : ¬ v = 0 := by rcases hv with ⟨_, y⟩ | ⟨_, y⟩ <;> (rw [y]; decide)
          have ht : ¬ t.1 = 0 := by rw [e]; rcases hv with ⟨x, _⟩ | ⟨x, _⟩ <;> (rw [x]; decide)
          unfold vX5_readSum_42
          intro _ a5 e5 _
          obtain rfl := cX_tk C h.1 e5
          refine vc_adv1 C h ht (fun u1 g1 => ?_)
          intro _
          refine h1 (k + 1) (L ++ cs) (p_adv f n t) u1 _ g1 (fun u2 g2 => ?_)
          have nxt : vX5_readSum_68 re (vX5_readSum_7 re Q j) Q rd l1 i v rd u2 := by
            unfold vX5_readSum_68
            intro _
            refine vc_put C g2 (fun u3 g3 => ?_)
            intro v3 e3
            refine ih m v3 (p_bind (.inr (t, cs)) (fun t => p_bind (p_term f n R (p_adv f n t)) (p_put v))) u3 ?_ (by omega) (cr_pre g3) (fun u' h' => kk u' ?_)
            · rw [e3, ki_add (by rw [hi, ki_z1]; omega) (by rw [hi, ki_z1]; omega), hi, ki_z1]
              omega
            · rw [p_bind_assoc] at h'
              rw [p_bind_congr (k' := fun t => p_bind (p_bind (p_term f n R (p_adv f n t)) (p_put v)) (p_loop f n (p_term f n R) p_opS m)) (by rw [p_loop_go (by rw [hop]; exact hv0), hop])]
              exact h'
          refine ⟨fun x => ?_, fun x => ?_⟩
          · rcases hv with ⟨y, _⟩ | ⟨_, y⟩
            · exact absurd y x
            · rw [y] at nxt; exact nxt
          · rcases hv with ⟨_, y⟩ | ⟨y, _⟩
            · rw [y] at nxt; exact nxt
            · rw [x] at y; exact absurd y (by decide)
        refine ⟨fun d => ?_, fun d => ⟨fun e => ?_, fun e => ?_⟩⟩
        · have e1 := (t_kcE (b := 43) (by decide) (by decide)).1 d
          rw [d]
          exact go 43 (-8) e1 (.inl ⟨rfl, rfl⟩)
        · have e1 := (t_kcE (b := 45) (by decide) (by decide)).1 e
          rw [e]
          exact go 45 (-9) e1 (.inr ⟨rfl, rfl⟩)
        · refine kk u (cr_pre ?_)
          rw [p_loop_stop (p_opS0 d e)]
          show cq_ f n rd tk ca σ k ((L ++ cs) ++ []) t u
          rw [List.append_nil]
          exact h
theorem vc_sum {re : Nat → Int32 → kx_S → (kx_S → Prop) → Prop} {l1 : Int32} {R : tk_T → pr_T} (C : c0_ f n rd tk ca tp tb σ) (hre : cp_ f n rd tk ca σ (fun u Q => re rd (l1 + 1) u Q) R) : cp_ f n rd tk ca σ (fun u Q => vX5_readSum re rd l1 u Q) (p_sum f n R) := by
  intro k L t u Q h kk
  show vX5_readSum re rd l1 u Q
  unfold vX5_readSum
  intro _
  refine vc_term C hre k L t u _ h (fun u1 g1 => ?_)
  intro j
  exact vc_loopS C (vc_term C hre) j 500 0 _ u1 (by decide) (Nat.le_refl _) g1 kk

theorem vc_put82 {re : Nat → Int32 → kx_S → (kx_S → Prop) → Prop} {k : Nat} {L : List Int32} {r : pr_T} {u : kx_S} {Q : kx_S → Prop} (C : c0_ f n rd tk ca tp tb σ) (h : cr_ f n rd tk ca σ (k + 1) L r u) (kk : ∀ u', cr_ f n rd tk ca σ k L (p_bind r (p_put (-16))) u' → Q u') : vX5_readTest_82 re Q rd 1 u := by
  unfold vX5_readTest_82
  exact ⟨fun x => absurd x (by decide), fun _ _ => vc_put C h kk⟩
theorem vc_test21 {re : Nat → Int32 → kx_S → (kx_S → Prop) → Prop} {l1 l2 : Int32} {R : tk_T → pr_T} {k : Nat} {L : List Int32} {t : tk_T} {u : kx_S} {Q : kx_S → Prop} (C : c0_ f n rd tk ca tp tb σ) (hre : cp_ f n rd tk ca σ (fun u Q => re rd (l1 + 1) u Q) R) (h : cq_ f n rd tk ca σ k L t u) (kk : ∀ u', cr_ f n rd tk ca σ k L (p_cmp f n R t) u' → vX5_readTest_82 re Q rd l2 u') : vX5_readTest_21 re Q rd l1 l2 u := by
  unfold vX5_readTest_21
  intro _
  refine vc_sum C hre k L t u _ h (fun u1 g1 => ?_)
  intro _ a17 e17 _
  obtain rfl := cX_tk C (cr_X g1) e17
  rintro v20 rfl
  unfold p_cmp at kk
  revert g1 kk
  cases p_sum f n R t with
  | inl p =>
    intro kk g1
    exact ⟨fun _ => kk u1 g1, fun c => absurd c g1.2.1⟩
  | inr q =>
    obtain ⟨t1, cs⟩ := q
    intro kk g1
    have g1 : cq_ f n rd tk ca σ k (L ++ cs) t1 u1 := g1
    rw [g1.2.2.1.2.2]
    refine ⟨fun c => absurd g1.2.1 c, fun _ => ?_⟩
    have go : ∀ (l3 v : Int32), t1.1 = l3 → (l3 = 60 ∧ v = (-12) ∨ l3 = 61 ∧ v = (-13)) → vX5_readTest_53 re (vX5_readTest_82 re Q) Q rd l1 l2 l3 u1 := by
      intro l3 v e hv
      have hop : p_opC t1 = v := by
        unfold p_opC
        rcases hv with ⟨x, y⟩ | ⟨x, y⟩
        · rw [if_pos (e.trans x), y]
        · rw [if_neg (by rw [e, x]; decide), if_pos (e.trans x), y]
      have hv0 : ¬ v = 0 := by rcases hv with ⟨_, y⟩ | ⟨_, y⟩ <;> (rw [y]; decide)
      have ht : ¬ t1.1 = 0 := by rw [e]; rcases hv with ⟨x, _⟩ | ⟨x, _⟩ <;> (rw [x]; decide)
      unfold vX5_readTest_53
      intro _ a7 e7 _
      obtain rfl := cX_tk C g1.1 e7
      refine vc_adv1 C g1 ht (fun u2 g2 => ?_)
      intro _
      refine vc_sum C hre (k + 1) (L ++ cs) (p_adv f n t1) u2 _ g2 (fun u3 g3 => ?_)
      have nxt : vX5_readTest_79 re (vX5_readTest_82 re Q) Q rd l2 v rd u3 := by
        unfold vX5_readTest_79
        intro _
        refine vc_put C g3 (fun u4 g4 => kk u4 (cr_pre ?_))
        rw [show p_cmp2 f n R t1 = p_bind (p_sum f n R (p_adv f n t1)) (p_put v) from (if_neg (by rw [hop]; exact hv0)).trans (by rw [hop])]
        exact g4
      refine ⟨fun x => ?_, fun x => ?_⟩
      · rcases hv with ⟨y, _⟩ | ⟨_, y⟩
        · exact absurd y x
        · rw [y] at nxt; exact nxt
      · rcases hv with ⟨_, y⟩ | ⟨y, _⟩
        · rw [y] at nxt; exact nxt
        · rw [x] at y; exact absurd y (by decide)
    refine ⟨fun d => ?_, fun d => ⟨fun e => ?_, fun e => ?_⟩⟩
    · have e1 := (t_kcE (b := 60) (by decide) (by decide)).1 d
      rw [d]
      exact go 60 (-12) e1 (.inl ⟨rfl, rfl⟩)
    · refine kk u1 (cr_pre ?_)
      have hop : p_opC t1 = 0 := by
        unfold p_opC
        rw [if_neg (fun q => d ((t_kcE (by decide) (by decide)).2 q)), if_neg (fun q => e ((t_kcE (by decide) (by decide)).2 q))]
      rw [show p_cmp2 f n R t1 = .inr (t1, []) from if_pos hop]
      show cq_ f n rd tk ca σ k ((L ++ cs) ++ []) t1 u1
      rw [List.append_nil]
      exact g1
    · have e1 := (t_kcE (b := 61) (by decide) (by decide)).1 e
      rw [e]
      exact go 61 (-13) e1 (.inr ⟨rfl, rfl⟩)
theorem vc_test {re : Nat → Int32 → kx_S → (kx_S → Prop) → Prop} {l1 : Int32} {R : tk_T → pr_T} (C : c0_ f n rd tk ca tp tb σ) (hre : cp_ f n rd tk ca σ (fun u Q => re rd (l1 + 1) u Q) R) : cp_ f n rd tk ca σ (fun u Q => vX5_readTest re rd l1 u Q) (p_test f n R) := by
  intro k L t u Q h kk
  show vX5_readTest re rd l1 u Q
  unfold vX5_readTest
  intro _ a25 e25 _
  obtain rfl := cX_tk C h.1 e25
  refine vc_isWord C h (fun w => ⟨fun x => absurd x (by decide), fun _ => ?_⟩) (fun w => ⟨fun _ => ?_, fun x => absurd rfl x⟩)
  · intro _ a32 e32 _
    obtain rfl := cX_tk C h.1 e32
    have ht : ¬ t.1 = 0 := by rw [(t_wd_iff.1 w).1]; decide
    refine vc_adv1 C h ht (fun u1 g1 => ?_)
    refine vc_test21 C hre g1 (fun u2 g2 => vc_put82 C g2 (fun u3 g3 => kk u3 ?_))
    rw [show p_test f n R t = p_bind (p_cmp f n R (p_adv f n t)) (p_put (-16)) from if_pos w]
    exact g3
  · refine vc_test21 C hre h (fun u2 g2 => ?_)
    unfold vX5_readTest_82
    refine ⟨fun _ => kk u2 ?_, fun x => absurd rfl x⟩
    rw [show p_test f n R t = p_cmp f n R t from if_neg (b_no w)]
    exact g2
theorem vc_loopE {re : Nat → Int32 → kx_S → (kx_S → Prop) → Prop} {l1 : Int32} {R : tk_T → pr_T} {k : Nat} {L : List Int32} {Q : kx_S → Prop} (C : c0_ f n rd tk ca tp tb σ) (h1 : cp_ f n rd tk ca σ (fun u Q => vX5_readTest re rd l1 u Q) (p_test f n R)) : ∀ (j m : Nat) (i : Int32) (r : pr_T) (u : kx_S), i.toInt = 500 - (m : Int) → m ≤ 500 → cr_ f n rd tk ca σ k L r u → (∀ u', cr_ f n rd tk ca σ k L (p_bind r (p_loop f n (p_test f n R) (p_opE f) m)) u' → Q u') → vX5_readExpr_48 re Q j rd l1 i u := by
  intro j
  induction j with
  | zero => intro _ _ _ _ _ _ _ _; exact trivial
  | succ j ih =>
    intro m i r u hi hm h kk
    unfold vX5_readExpr_48
    have z5 : (500 : Int32).toInt = 500 := by decide
    cases r with
    | inl p => exact ⟨fun _ => kk u h, fun _ _ => ⟨fun _ => kk u h, fun c => absurd c h.2.1⟩⟩
    | inr q =>
      obtain ⟨t, cs⟩ := q
      have h : cq_ f n rd tk ca σ k (L ++ cs) t u := h
      refine ⟨fun c => ?_, fun c _ => ⟨fun d => absurd h.2.1 d, fun _ => ?_⟩⟩
      · rw [ki_le, z5, hi] at c
        have : m = 0 := by omega
        subst this
        refine kk u (cr_pre ?_)
        show cq_ f n rd tk ca σ k ((L ++ cs) ++ []) t u
        rw [List.append_nil]
        exact h
      · rw [ki_le, z5, hi] at c
        obtain ⟨m, rfl⟩ : ∃ q, m = q + 1 := ⟨m - 1, by omega⟩
        intro a15 e15 _
        obtain rfl := cX_tk C h.1 e15
        have go : ∀ (l3 v : Int32), t.1 = 1 → p_opE f t = v → (¬ l3 = 0 ∧ v = (-14) ∨ l3 = 0 ∧ v = (-15)) → vX5_readExpr_89 re (vX5_readExpr_48 re Q j) Q rd l1 i l3 u := by
          intro l3 v e hop hv
          have hv0 : ¬ v = 0 := by rcases hv with ⟨_, y⟩ | ⟨_, y⟩ <;> (rw [y]; decide)
          have ht : ¬ t.1 = 0 := by rw [e]; decide
          unfold vX5_readExpr_89
          intro _ a5 e5 _
          obtain rfl := cX_tk C h.1 e5
          refine vc_adv1 C h ht (fun u1 g1 => ?_)
          intro _
          refine h1 (k + 1) (L ++ cs) (p_adv f n t) u1 _ g1 (fun u2 g2 => ?_)
          have nxt : vX5_readExpr_113 re (vX5_readExpr_48 re Q j) Q rd l1 i v rd u2 := by
            unfold vX5_readExpr_113
            intro _
            refine vc_put C g2 (fun u3 g3 => ?_)
            intro v3 e3
            refine ih m v3 (p_bind (.inr (t, cs)) (fun t => p_bind (p_test f n R (p_adv f n t)) (p_put v))) u3 ?_ (by omega) (cr_pre g3) (fun u' h' => kk u' ?_)
            · rw [e3, ki_add (by rw [hi, ki_z1]; omega) (by rw [hi, ki_z1]; omega), hi, ki_z1]
              omega
            · rw [p_bind_assoc] at h'
              rw [p_bind_congr (k' := fun t => p_bind (p_bind (p_test f n R (p_adv f n t)) (p_put v)) (p_loop f n (p_test f n R) (p_opE f) m)) (by rw [p_loop_go (by rw [hop]; exact hv0), hop])]
              exact h'
          refine ⟨fun x => ?_, fun x => ?_⟩
          · rcases hv with ⟨y, _⟩ | ⟨_, y⟩
            · exact absurd x y
            · rw [y] at nxt; exact nxt
          · rcases hv with ⟨_, y⟩ | ⟨y, _⟩
            · rw [y] at nxt; exact nxt
            · exact absurd y x
        refine vc_isWord C h (fun w => ⟨fun _ => ?_, fun x => absurd x (by decide)⟩) (fun w => ⟨fun x => absurd rfl x, fun _ => ?_⟩)
        · exact go 1 (-14) (t_wd_iff.1 w).1 (if_pos w) (.inl ⟨by decide, rfl⟩)
        · intro _ a25 e25 _
          obtain rfl := cX_tk C h.1 e25
          refine vc_isWord C h (fun w2 => ⟨fun _ => ?_, fun x => absurd x (by decide)⟩) (fun w2 => ⟨fun x => absurd rfl x, fun _ => ?_⟩)
          · exact go 0 (-15) (t_wd_iff.1 w2).1 ((if_neg (b_no w)).trans (if_pos w2)) (.inr ⟨rfl, rfl⟩)
          · refine kk u (cr_pre ?_)
            rw [p_loop_stop (show p_opE f t = 0 from (if_neg (b_no w)).trans (if_neg (b_no w2)))]
            show cq_ f n rd tk ca σ k ((L ++ cs) ++ []) t u
            rw [List.append_nil]
            exact h
theorem vc_expr (C : c0_ f n rd tk ca tp tb σ) : ∀ (d D : Nat) (l1 : Int32), l1.toInt = 8 - (d : Int) → d ≤ 8 → cp_ f n rd tk ca σ (fun u Q => vX5_readExpr D rd l1 u Q) (p_expr f n d) := by
  have z8 : (8 : Int32).toInt = 8 := by decide
  intro d
  induction d with
  | zero =>
    intro D l1 hl _ k L t u Q h kk
    cases D with
    | zero => exact trivial
    | succ D =>
      show vX5_readExpr_b (vX5_readExpr D) rd l1 u Q
      unfold vX5_readExpr_b
      have fin : ∀ s0 : Int32, vX5_readExpr_26 (vX5_readExpr D) Q rd s0 u := by
        intro s0
        unfold vX5_readExpr_26 vX5_readExpr_37
        exact ⟨fun c _ => vc_fail C h c (fun u' h' => kk u' h'), fun _ _ => vc_fail C h (by decide) (fun u' h' => kk u' h')⟩
      refine ⟨fun c => ?_, fun _ _ => ?_⟩
      · rw [ki_lt, z8] at c
        omega
      · intro a36 e36 _
        obtain rfl := cX_tk C h.1 e36
        refine vc_isWord C h (fun w => ⟨fun x => absurd x (by decide), fun _ => fin 0⟩) (fun w => ⟨fun _ _ => ?_, fun x => absurd rfl x⟩)
        exact vc_fop C h (fun _ => fin 0) (fun _ v _ => fin v)
  | succ d ih =>
    intro D l1 hl hd k L t u Q h kk
    cases D with
    | zero => exact trivial
    | succ D =>
      show vX5_readExpr_b (vX5_readExpr D) rd l1 u Q
      unfold vX5_readExpr_b
      have hre : cp_ f n rd tk ca σ (fun u Q => vX5_readExpr D rd (l1 + 1) u Q) (p_expr f n d) := by
        refine ih D (l1 + 1) ?_ (by omega)
        rw [ki_add (by rw [hl, ki_z1]; omega) (by rw [hl, ki_z1]; omega), hl, ki_z1]
        omega
      refine ⟨fun _ _ => ?_, fun c => absurd ?_ c⟩
      · refine vc_test C hre k L t u _ h (fun u1 g1 => ?_)
        intro j
        exact vc_loopE C (vc_test C hre) j 500 0 _ u1 (by decide) (Nat.le_refl _) g1 kk
      · rw [ki_lt, z8]
        omega

/-- the rules' row of codes, as the class keeps it -/
def p_flat (rs : List (Bool × List Int32)) : List Int32 := rs.flatMap (fun r => r.2 ++ [if r.1 = true then -18 else -17])
theorem t_wd78 {t : tk_T} (h : t_wd f t 8 = true) : t_wd f t 7 = false := by
  refine t_wd_no (fun x => ?_)
  have e := (t_wd_iff.1 h).2.1
  rw [x.2.1] at e
  exact absurd e (by decide)
theorem vc_rule {k : Nat} {L : List Int32} {t : tk_T} {i : Int32} {q : Nat} {u : kx_S} {Q : kx_S → Prop} (C : c0_ f n rd tk ca tp tb σ) (hi : i.toInt = (q : Int)) (h : cq_ f n rd tk ca σ k L t u) (kk : ∀ u', cr_ f n rd tk ca σ k L (p_bind (p_rule f n q t) (p_put (if t_wd f t 7 = true then -18 else -17))) u' → Q u') : vX5_readRule rd i u Q := by
  have z12 : (12 : Int32).toInt = 12 := by decide
  have go : ∀ l2 : Int32, (t_wd f t 8 = true ∨ t_wd f t 7 = true) → ((l2 = 0 ∧ t_wd f t 7 = true) ∨ (¬ l2 = 0 ∧ t_wd f t 7 = false)) → vX5_readRule_32 Q rd i l2 u := by
    intro l2 hw hl
    have ht : ¬ t.1 = 0 := by rcases hw with w | w <;> (rw [(t_wd_iff.1 w).1]; decide)
    unfold vX5_readRule_32
    refine ⟨fun c _ => ?_, fun c _ => ?_⟩
    · have nq : ¬ q = 12 := fun e => c (ki_eq.2 (by rw [hi, z12]; omega))
      intro a5 e5 _
      obtain rfl := cX_tk C h.1 e5
      refine vc_adv1 C h ht (fun u1 g1 => ?_)
      intro _
      refine vc_expr C 8 10 0 (by decide) (Nat.le_refl _) (k + 1) L (p_adv f n t) u1 _ g1 (fun u2 g2 => ?_)
      intro _
      refine vc_pass C ⟨by decide, by decide, by decide⟩ g2 (fun u3 g3 => ?_)
      have er : p_rule f n q t = p_bind (p_expr f n 8 (p_adv f n t)) (p_sg f n 59) := (if_pos hw).trans (if_neg nq)
      rw [er] at kk
      refine ⟨fun x => ?_, fun x => ?_⟩
      · have w : t_wd f t 7 = true := by rcases hl with y | y; exact y.2; exact absurd x y.1
        rw [if_pos w] at kk
        unfold vX5_readRule_74
        intro _
        exact vc_put C g3 kk
      · have w : t_wd f t 7 = false := by rcases hl with y | y; exact absurd y.1 x; exact y.2
        rw [if_neg (b_no w)] at kk
        unfold vX5_readRule_74
        intro _
        exact vc_put C g3 kk
    · have nq : q = 12 := by
        have := congrArg Int32.toInt c
        rw [hi, z12] at this
        omega
      have er : p_rule f n q t = .inl t.2.1 := (if_pos hw).trans (if_pos nq)
      rw [er] at kk
      exact vc_fail C h (by decide) (fun u' h' => kk u' h')
  unfold vX5_readRule
  intro _ a17 e17 _
  obtain rfl := cX_tk C h.1 e17
  refine vc_isWord C h (fun w => ⟨fun _ => go 1 (.inl w) (.inr ⟨by decide, t_wd78 w⟩), fun x => absurd x (by decide)⟩) (fun w => ⟨fun x => absurd rfl x, fun _ => ?_⟩)
  intro _ a24 e24 _
  obtain rfl := cX_tk C h.1 e24
  refine vc_isWord C h (fun w2 => ⟨fun _ => go 0 (.inr w2) (.inl ⟨rfl, w2⟩), fun x => absurd x (by decide)⟩) (fun w2 => ⟨fun x => absurd rfl x, fun _ _ => ?_⟩)
  have er : p_rule f n q t = .inl t.2.1 := if_neg (fun x => x.elim (b_no w) (b_no w2))
  rw [er] at kk
  exact vc_fail C h (by decide) (fun u' h' => kk u' h')
def cz_ (n rd tk ca : Nat) (σ : kx_S) (RS : List (Bool × List Int32)) (r : pt_T) (u : kx_S) : Prop := match r with
  | .inl p => cF_ n rd tk ca σ p u
  | .inr rs => cX_ n rd tk ca σ u ∧ xi u 115 rd = 0 ∧ cC_ rd ca (p_flat (RS ++ rs)) u
theorem vc_text25 {Q : kx_S → Prop} (C : c0_ f n rd tk ca tp tb σ) : ∀ (j m : Nat) (i : Int32) (q : Nat) (RS : List (Bool × List Int32)) (t : tk_T) (u : kx_S), i.toInt = (q : Int) → m + q = 13 → cq_ f n rd tk ca σ 0 (p_flat RS) t u → (∀ u', cz_ n rd tk ca σ RS (p_text f n m q t) u' → Q u') → vX5_readText_25 Q j rd i u := by
  have z12 : (12 : Int32).toInt = 12 := by decide
  intro j
  induction j with
  | zero => intro _ _ _ _ _ _ _ _ _ _; exact trivial
  | succ j ih =>
    intro m i q RS t u hi hm h kk
    unfold vX5_readText_25
    have stop : (p_text f n m q t = .inr []) → Q u := by
      intro e
      rw [e] at kk
      refine kk u ⟨h.1, h.2.1, ?_⟩
      rw [List.append_nil]
      exact h.2.2.2.2.1
    refine ⟨fun c => ?_, fun c _ => ?_⟩
    · rw [ki_lt, z12, hi] at c
      have : m = 0 := by omega
      subst this
      exact stop rfl
    · rw [ki_lt, z12, hi] at c
      obtain ⟨m, rfl⟩ : ∃ x, m = x + 1 := ⟨m - 1, by omega⟩
      intro a3 e3 _
      obtain rfl := cX_tk C h.1 e3
      rw [h.2.2.1.2.2]
      refine ⟨fun d => stop (if_pos ((t_kcE (by decide) (by decide)).1 d)), fun d => ⟨fun e => absurd h.2.1 e, fun _ => ?_⟩⟩
      have d1 : ¬ t.1 = 0 := fun x => d ((t_kcE (by decide) (by decide)).2 x)
      refine vc_rule C hi h (fun u1 g1 => ?_)
      intro v9 e9
      have hv9 : v9.toInt = ((q + 1 : Nat) : Int) := by
        rw [e9, ki_add (by rw [hi, ki_z1]; omega) (by rw [hi, ki_z1]; omega), hi, ki_z1]
        omega
      cases er : p_rule f n q t with
      | inl p =>
        rw [er] at g1
        have e2 : p_text f n (m + 1) q t = .inl p := by
          show (if t.1 = 0 then (.inr [] : pt_T) else _) = _
          rw [if_neg d1, er]
        rw [e2] at kk
        have fin := kk u1 g1
        cases j with
        | zero => exact trivial
        | succ j =>
          unfold vX5_readText_25
          exact ⟨fun _ => fin, fun _ _ a b _ => ⟨fun _ => fin, fun _ => ⟨fun _ => fin, fun x => absurd x g1.2.1⟩⟩⟩
      | inr w =>
        obtain ⟨t2, cs⟩ := w
        rw [er] at g1
        have g1 : cq_ f n rd tk ca σ 0 (p_flat RS ++ (cs ++ [if t_wd f t 7 = true then -18 else -17])) t2 u1 := g1
        have ef : p_flat (RS ++ [(t_wd f t 7, cs)]) = p_flat RS ++ (cs ++ [if t_wd f t 7 = true then -18 else -17]) := by
          unfold p_flat
          rw [List.flatMap_append, List.flatMap_cons, List.flatMap_nil, List.append_nil]
        rw [← ef] at g1
        refine ih m v9 (q + 1) (RS ++ [(t_wd f t 7, cs)]) t2 u1 hv9 (by omega) g1 (fun u' h' => kk u' ?_)
        have e2 : p_text f n (m + 1) q t = match p_text f n m (q + 1) t2 with
            | .inl p => .inl p
            | .inr rs => .inr ((t_wd f t 7, cs) :: rs) := by
          show (if t.1 = 0 then (.inr [] : pt_T) else _) = _
          rw [if_neg d1, er]
          rfl
        rw [e2]
        revert h'
        cases p_text f n m (q + 1) t2 with
        | inl p => intro h'; exact h'
        | inr rs =>
          intro h'
          obtain ⟨a, b, c⟩ := h'
          refine ⟨a, b, ?_⟩
          rw [List.append_assoc] at c
          exact c
theorem vc_text {nn : Int32} {Q : kx_S → Prop} (C : c0_ f n rd tk ca tp tb σ) (hn : nn.toInt = (n : Int)) (kk : ∀ u', cz_ n rd tk ca σ [] (p_text f n 13 0 (t_tok f n 0)) u' → Q u') : vX5_readText rd nn σ Q := by
  unfold vX5_readText
  rintro _ σ11 rfl σ13 rfl σ15 rfl a17 e17 _
  have e17 : xr σ 112 rd = some a17 := e17
  obtain rfl : tk = a17 := Option.some.inj (C.1.symm.trans e17)
  unfold vX10_openText
  rintro _ σ2 rfl σ4 rfl
  have r1 : rf_ rd tk ca σ (xsi (xsi (xsi (xsi (xsi σ 114 rd 0) 115 rd 0) 116 rd (-1)) 193 tk nn) 194 tk 0) := rf_si (rf_si (rf_si (rf_si (rf_si rf_refl (.inr ⟨rfl, .inl rfl⟩)) (.inr ⟨rfl, .inr (.inl rfl)⟩)) (.inr ⟨rfl, .inr (.inr rfl)⟩)) (.inl ⟨rfl, .inl rfl⟩)) (.inl ⟨rfl, .inr (.inl rfl)⟩)
  have x193 : xi (xsi (xsi (xsi (xsi (xsi σ 114 rd 0) 115 rd 0) 116 rd (-1)) 193 tk nn) 194 tk 0) 193 tk = nn := va_up_self _ _ _
  have x194 : xi (xsi (xsi (xsi (xsi (xsi σ 114 rd 0) 115 rd 0) 116 rd (-1)) 193 tk nn) 194 tk 0) 194 tk = 0 := va_up_self _ _ _
  have x115 : xi (xsi (xsi (xsi (xsi (xsi σ 114 rd 0) 115 rd 0) 116 rd (-1)) 193 tk nn) 194 tk 0) 115 rd = 0 := va_up_self _ _ _
  have x114 : xi (xsi (xsi (xsi (xsi (xsi σ 114 rd 0) 115 rd 0) 116 rd (-1)) 193 tk nn) 194 tk 0) 114 rd = 0 := va_up_self _ _ _
  have hX : cX_ n rd tk ca σ (xsi (xsi (xsi (xsi (xsi σ 114 rd 0) 115 rd 0) 116 rd (-1)) 193 tk nn) 194 tk 0) := ⟨r1, by rw [x193]; exact hn⟩
  generalize xsi (xsi (xsi (xsi (xsi σ 114 rd 0) 115 rd 0) 116 rd (-1)) 193 tk nn) 194 tk 0 = u at *
  refine vy_advance (p := 0) (cX_ct C hX) (by rw [x194]; decide) (Nat.zero_le n) (fun u' c _ T' => ?_)
  intro j
  refine vc_text25 C j 13 0 0 [] (t_tok f n 0) u' (by decide) rfl ⟨⟨rf_ck hX.1 c, ?_⟩, ?_, T', ⟨0, Nat.zero_le n, rfl⟩, ⟨?_, fun i hi => absurd hi (Nat.not_lt_zero i)⟩, Nat.zero_le _⟩ kk
  · rw [c.1 193 tk (by rintro ⟨_, h | h | h⟩ <;> exact absurd h (by decide))]
    exact hX.2
  · rw [c.1 115 rd (by rintro ⟨_, h | h | h⟩ <;> exact absurd h (by decide))]
    exact x115
  · rw [c.1 114 rd (by rintro ⟨_, h | h | h⟩ <;> exact absurd h (by decide)), x114]
    rfl
end
end
section
/-! the reference's reader -/
def enc1 (v : Int32) : List Int32 := if 0 ≤ v then [0, v] else if -8 < v then [19 - v] else [-7 - v]
def enc (L : List Int32) : List Int32 := L.flatMap enc1
theorem enc_app {L M : List Int32} : enc (L ++ M) = enc L ++ enc M := List.flatMap_append
theorem enc_one {v : Int32} : enc [v] = enc1 v := by
  unfold enc
  rw [List.flatMap_cons, List.flatMap_nil, List.append_nil]
theorem enc_len : ∀ L : List Int32, (enc L).length ≤ 2 * L.length := by
  intro L
  induction L with
  | nil => exact Nat.le_refl 0
  | cons v L ih =>
    have e : enc (v :: L) = enc1 v ++ enc L := List.flatMap_cons
    have h1 : (enc1 v).length ≤ 2 := by
      unfold enc1
      split
      · exact Nat.le_refl 2
      · split <;> exact Nat.le_succ 1
    rw [e, List.length_append, List.length_cons]
    omega
def gq_ (lw : Nat) (μ u : km_S) : Prop := (∀ j, j ≠ 59 → j ≠ 60 → j ≠ 62 → j ≠ 63 → j ≠ 64 → j ≠ 65 → j ≠ 66 → j ≠ 67 → km_i u j = km_i μ j) ∧ (∀ g, g ≠ 56 → km_a u g = km_a μ g) ∧ (∀ i, i < 900 * lw → km_a u 56 i = km_a μ 56 i) ∧ u.2.2 = μ.2.2
theorem gq_refl {lw : Nat} {μ : km_S} : gq_ lw μ μ := ⟨fun _ _ _ _ _ _ _ _ _ => rfl, fun _ _ => rfl, fun _ _ => rfl, rfl⟩
theorem gq_mk {lw : Nat} {μ u v : km_S} (h : gq_ lw μ u) (k : mk_ u v) : gq_ lw μ v := by
  obtain ⟨k1, k2⟩ := k
  refine ⟨fun j a b c d e g x y => (k1 j b c d e g).trans (h.1 j a b c d e g x y), fun g hg => ?_, fun i hi => ?_, ?_⟩
  · refine Eq.trans ?_ (h.2.1 g hg)
    show v.2.1 g = u.2.1 g
    rw [k2]
  · refine Eq.trans ?_ (h.2.2.1 i hi)
    show v.2.1 56 i = u.2.1 56 i
    rw [k2]
  · rw [k2]
    exact h.2.2.2
theorem gq_si {lw : Nat} {μ u : km_S} {g : Nat} {w : Int32} (h : gq_ lw μ u) (hg : g = 59 ∨ g = 66 ∨ g = 67) : gq_ lw μ (km_si u g w) := by
  refine ⟨fun j a b c d e g1 x y => ?_, h.2.1, h.2.2.1, h.2.2.2⟩
  refine Eq.trans ?_ (h.1 j a b c d e g1 x y)
  show upd u.1 g w j = u.1 j
  refine w_updN ?_
  rcases hg with rfl | rfl | rfl <;> assumption
theorem gq_sa {lw : Nat} {μ u : km_S} {i : Nat} {w : Int32} (h : gq_ lw μ u) (hi : 900 * lw ≤ i) : gq_ lw μ (km_sa u 56 i w) := by
  refine ⟨h.1, fun g hg => ?_, fun q hq => ?_, h.2.2.2⟩
  · refine Eq.trans ?_ (h.2.1 g hg)
    show (if g = 56 then _ else u.2.1 g) = u.2.1 g
    exact if_neg hg
  · refine Eq.trans ?_ (h.2.2.1 q hq)
    show upd (u.2.1 56) i w q = u.2.1 56 q
    exact w_updN (by omega)
def mD_ (lw : Nat) (E : List Int32) (u : km_S) : Prop := (km_i u 59).toInt = (E.length : Int) ∧ ∀ i, i < E.length → km_a u 56 (900 * lw + i) = E.getD i 0
def m0_ (f : Nat → Int32) (n lw : Nat) (μ : km_S) : Prop := mt_ f n μ ∧ (∀ i, i < n → ¬ f i = -1) ∧ (km_i μ 5).toInt = (lw : Int) ∧ lw < 6
def mq_ (f : Nat → Int32) (n lw : Nat) (μ : km_S) (k : Nat) (L : List Int32) (t : tk_T) (u : km_S) : Prop := gq_ lw μ u ∧ km_i u 66 = 0 ∧ mT_ t u ∧ tt_ f n t ∧ mD_ lw (enc L) u ∧ L.length + k ≤ t.2.1
def mF_ (lw : Nat) (μ : km_S) (p : Nat) (u : km_S) : Prop := gq_ lw μ u ∧ ¬ km_i u 66 = 0 ∧ (km_i u 67).toInt = (p : Int)
def mr_ (f : Nat → Int32) (n lw : Nat) (μ : km_S) (k : Nat) (L : List Int32) (r : pr_T) (u : km_S) : Prop := match r with
  | .inl p => mF_ lw μ p u
  | .inr (t, cs) => mq_ f n lw μ k (L ++ cs) t u
def mp_ (f : Nat → Int32) (n lw : Nat) (μ : km_S) (V : km_S → (km_S → Prop) → Prop) (P : tk_T → pr_T) : Prop := ∀ (k : Nat) (L : List Int32) (t : tk_T) (u : km_S) (Q : km_S → Prop), 1 ≤ k → mq_ f n lw μ k L t u → (∀ u', mr_ f n lw μ k L (P t) u' → Q u') → V u Q
theorem t_rk0 {k : Int32} : t_rk k = 0 ↔ k = 0 := by
  unfold t_rk
  constructor
  · intro e
    split at e
    · assumption
    · split at e
      · exact absurd e (by decide)
      · split at e
        · exact absurd e (by decide)
        · split at e <;> exact absurd e (by decide)
  · intro e
    rw [e]
    decide
theorem t_rk1 {k : Int32} : t_rk k = 1 ↔ k = 1 := by
  unfold t_rk
  constructor
  · intro e
    split at e
    · exact absurd e (by decide)
    · split at e
      · assumption
      · split at e
        · exact absurd e (by decide)
        · split at e <;> exact absurd e (by decide)
  · intro e
    rw [e]
    decide
theorem t_rk2 {k : Int32} : t_rk k = 2 ↔ k = 2 := by
  unfold t_rk
  constructor
  · intro e
    split at e
    · exact absurd e (by decide)
    · split at e
      · exact absurd e (by decide)
      · split at e
        · assumption
        · split at e <;> exact absurd e (by decide)
  · intro e
    rw [e]
    decide
section
variable {f : Nat → Int32} {n lw : Nat} {μ : km_S}
theorem gq_mt {u : km_S} (C : m0_ f n lw μ) (h : gq_ lw μ u) : mt_ f n u := by
  obtain ⟨⟨c1, c2, c3⟩, _⟩ := C
  refine ⟨by rw [h.1 61 (by decide) (by decide) (by decide) (by decide) (by decide) (by decide) (by decide) (by decide)]; exact c1, c2, fun i hi => ?_⟩
  rw [h.2.1 52 (by decide)]
  exact c3 i hi
theorem gq_5 {u : km_S} (C : m0_ f n lw μ) (h : gq_ lw μ u) : (km_i u 5).toInt = (lw : Int) := by
  rw [h.1 5 (by decide) (by decide) (by decide) (by decide) (by decide) (by decide) (by decide) (by decide)]
  exact C.2.2.1
theorem mq_le {k : Nat} {L : List Int32} {t : tk_T} {u : km_S} (h : mq_ f n lw μ (k + 1) L t u) : mq_ f n lw μ k L t u := ⟨h.1, h.2.1, h.2.2.1, h.2.2.2.1, h.2.2.2.2.1, by have := h.2.2.2.2.2; omega⟩
theorem mr_pre {k : Nat} {L cs : List Int32} {t : tk_T} {X : tk_T → pr_T} {u : km_S} (h : mr_ f n lw μ k (L ++ cs) (X t) u) : mr_ f n lw μ k L (p_bind (.inr (t, cs)) X) u := by
  cases e : X t with
  | inl p =>
    rw [p_bind_l e]
    rw [e] at h
    exact h
  | inr q =>
    obtain ⟨t2, ds⟩ := q
    rw [p_bind_r e]
    rw [e] at h
    have h : mq_ f n lw μ k ((L ++ cs) ++ ds) t2 u := h
    show mq_ f n lw μ k (L ++ (cs ++ ds)) t2 u
    rw [← List.append_assoc]
    exact h
theorem mr_nil {k : Nat} {L cs : List Int32} {t : tk_T} {X : tk_T → pr_T} {u : km_S} (e : X t = .inr (t, [])) (h : mq_ f n lw μ k (L ++ cs) t u) : mr_ f n lw μ k L (p_bind (.inr (t, cs)) X) u := by
  refine mr_pre ?_
  rw [e]
  show mq_ f n lw μ k ((L ++ cs) ++ []) t u
  rw [List.append_nil]
  exact h
theorem ve_adv0 {k : Nat} {L : List Int32} {t : tk_T} {u : km_S} {Q : km_S → Prop} (C : m0_ f n lw μ) (hX : gq_ lw μ u) (h0 : km_i u 66 = 0) (T : mT_ t u) (ht : tt_ f n t) (hc : mD_ lw (enc L) u) (hl : L.length + k ≤ t.2.2) (kk : ∀ u', mq_ f n lw μ k L (p_adv f n t) u' → Q u') : vX12_step u Q := by
  refine vm_step (p := t.2.2) C.2.1 (gq_mt C hX) T.1 (tt_ok ht).2 (fun u' c _ T' => kk u' ⟨gq_mk hX c, ?_, T', (tt_adv ht).1, ⟨?_, fun i hi => ?_⟩, ?_⟩)
  · rw [c.1 66 (by decide) (by decide) (by decide) (by decide) (by decide)]
    exact h0
  · rw [c.1 59 (by decide) (by decide) (by decide) (by decide) (by decide)]
    exact hc.1
  · refine Eq.trans ?_ (hc.2 i hi)
    show u'.2.1 56 _ = u.2.1 56 _
    rw [c.2]
  · have := (tt_adv ht).2
    omega
theorem ve_adv1 {k : Nat} {L : List Int32} {t : tk_T} {u : km_S} {Q : km_S → Prop} (C : m0_ f n lw μ) (h : mq_ f n lw μ k L t u) (hk : ¬ t.1 = 0) (kk : ∀ u', mq_ f n lw μ (k + 1) L (p_adv f n t) u' → Q u') : vX12_step u Q :=
  ve_adv0 C h.1 h.2.1 h.2.2.1 h.2.2.2.1 h.2.2.2.2.1 (by have := tt_pos h.2.2.2.1 hk; have := h.2.2.2.2.2; omega) kk
theorem mD_emit {E : List Int32} {u : km_S} {v : Int32} (h : mD_ lw E u) (hl : E.length ≤ 2000) : mD_ lw (E ++ [v]) (km_si (km_sa u 56 (900 * lw + E.length) v) 59 (km_i u 59 + 1)) := by
  refine ⟨?_, fun i hi => ?_⟩
  · show (upd u.1 59 (km_i u 59 + 1) 59).toInt = _
    rw [w_updS, ki_add (by rw [h.1, ki_z1]; omega) (by rw [h.1, ki_z1]; omega), h.1, ki_z1, List.length_append]
    simp
  · show upd (u.2.1 56) (900 * lw + E.length) v (900 * lw + i) = _
    have hi' : i < E.length + 1 := by rw [List.length_append] at hi; exact hi
    by_cases c : i = E.length
    · rw [c, w_updS, l_getD_r]
    · rw [w_updN (by omega), l_getD_l (by omega)]
      exact h.2 i (by omega)
theorem ve_emit0 {E : List Int32} {v : Int32} {u : km_S} {Q : km_S → Prop} (C : m0_ f n lw μ) (hX : gq_ lw μ u) (h0 : km_i u 66 = 0) (hE : mD_ lw E u) (hl : E.length ≤ 2000) (kk : Q (km_si (km_sa u 56 (900 * lw + E.length) v) 59 (km_i u 59 + 1))) : vX12_emit v u Q := by
  have z9 : (900 : Int32).toInt = 900 := by decide
  have h5 := gq_5 C hX
  have l6 := C.2.2.2
  have e1 : (900 * km_i u 5).toInt = 900 * (lw : Int) := by rw [ki_mul (by rw [z9, h5]; omega) (by rw [z9, h5]; omega), z9, h5]
  have e2 : (900 * km_i u 5 + km_i u 59).toNatClampNeg = 900 * lw + E.length := by
    rw [ki_nat, ki_add (by rw [e1, hE.1]; omega) (by rw [e1, hE.1]; omega), e1, hE.1]
    omega
  unfold vX12_emit
  rw [e2]
  refine ⟨fun _ _ => ?_, fun c => absurd h0 c⟩
  rintro μ3 rfl μ4 rfl
  exact kk
theorem ve_emitF {v : Int32} {p : Nat} {u : km_S} {Q : km_S → Prop} (h : mF_ lw μ p u) (kk : Q u) : vX12_emit v u Q := ⟨fun c => absurd c h.2.1, fun _ => kk⟩
theorem ve_put {k : Nat} {L : List Int32} {r : pr_T} {v c : Int32} {u : km_S} {Q : km_S → Prop} (C : m0_ f n lw μ) (he : enc1 v = [c]) (h : mr_ f n lw μ (k + 1) L r u) (kk : ∀ u', mr_ f n lw μ k L (p_bind r (p_put v)) u' → Q u') : vX12_emit c u Q := by
  cases r with
  | inl p => exact ve_emitF h (kk u h)
  | inr q =>
    obtain ⟨t, cs⟩ := q
    have h : mq_ f n lw μ (k + 1) (L ++ cs) t u := h
    obtain ⟨hX, h0, T, ht, hc, hl⟩ := h
    have ok := tt_ok ht
    have o1 := ok.1
    have o2 := ok.2
    have h5 := C.1.2.1
    have el := enc_len (L ++ cs)
    refine ve_emit0 C hX h0 hc (by omega) (kk _ ?_)
    show mq_ f n lw μ k (L ++ (cs ++ [v])) t _
    rw [← List.append_assoc]
    refine ⟨gq_si (gq_sa hX (by omega)) (.inl rfl), h0, T, ht, ?_, ?_⟩
    · rw [enc_app, enc_one, he]
      exact mD_emit hc (by omega)
    · rw [List.length_append]
      show (L ++ cs).length + 1 + k ≤ t.2.1
      omega
theorem ve_wrong {k : Nat} {L : List Int32} {t : tk_T} {v : Int32} {u : km_S} {Q : km_S → Prop} (h : mq_ f n lw μ k L t u) (hv : ¬ v = 0) (kk : ∀ u', mF_ lw μ t.2.1 u' → Q u') : vX12_wrong v u Q := by
  unfold vX12_wrong
  refine ⟨fun _ => ?_, fun c => absurd h.2.1 c⟩
  rintro μ2 rfl μ3 rfl
  refine kk _ ⟨gq_si (gq_si h.1 (.inr (.inl rfl))) (.inr (.inr rfl)), ?_, ?_⟩
  · show ¬ upd u.1 66 v 66 = 0
    rw [w_updS]
    exact hv
  · show (upd (upd u.1 66 v) 67 (km_i u 64) 67).toInt = _
    rw [w_updS]
    exact h.2.2.1.2.1
theorem ve_isWord {k : Nat} {L : List Int32} {t : tk_T} {l : Nat} {u : km_S} {Q : Int32 → km_S → Prop} (C : m0_ f n lw μ) (h : mq_ f n lw μ k L t u) (k1 : t_wd f t l = true → Q 1 u) (k0 : t_wd f t l = false → Q 0 u) : vX12_isWord l u Q := vm_isWord (gq_mt C h.1) h.2.2.1 (tt_ok h.2.2.2.1) k1 k0
theorem ve_200F {re : Int32 → km_S → (km_S → Prop) → Prop} {p : Nat} {u : km_S} {Q : km_S → Prop} (h : mF_ lw μ p u) (kk : Q u) : vX12_readPart_200 re Q u := ⟨fun _ => kk, fun c => absurd c h.2.1⟩
theorem ve_200 {re : Int32 → km_S → (km_S → Prop) → Prop} {k : Nat} {L : List Int32} {t : tk_T} {u : km_S} {Q : km_S → Prop} (C : m0_ f n lw μ) (hX : gq_ lw μ u) (h0 : km_i u 66 = 0) (T : mT_ t u) (ht : tt_ f n t) (hc : mD_ lw (enc L) u) (hl : L.length + k ≤ t.2.2) (kk : ∀ u', mq_ f n lw μ k L (p_adv f n t) u' → Q u') : vX12_readPart_200 re Q u := ⟨fun c => absurd h0 c, fun _ => ve_adv0 C hX h0 T ht hc hl kk⟩
/-- the words are seven -/
theorem t_wd_one {t : tk_T} {i j : Nat} (hi : i < 7) (hj : j < 7) (h1 : t_wd f t i = true) (h2 : t_wd f t j = true) : i = j := by
  have a := t_wd_iff.1 h1
  have b := t_wd_iff.1 h2
  have key : ∀ i, i < 7 → ∀ j, j < 7 → t_len i = t_len j → t_byt i 0 = t_byt j 0 → i = j := by decide +kernel
  have pos : ∀ i, i < 7 → 0 < t_len i := by decide +kernel
  refine key i hi j hj (a.2.1.symm.trans b.2.1) ?_
  have p1 := a.2.2 0 (pos i hi)
  have p2 := b.2.2 0 (pos j hj)
  exact p1.symm.trans p2
theorem p_nm0 {t : tk_T} (h : p_nm f t = 0) : ∀ l, l < 7 → t_wd f t l = false := by
  intro l hl
  cases e : t_wd f t l with
  | false => rfl
  | true =>
    exfalso
    revert h
    unfold p_nm
    repeat' split
    all_goals first
      | (intro x; exact absurd x (by decide))
      | skip
    intro _
    have : l = 0 ∨ l = 1 ∨ l = 2 ∨ l = 3 ∨ l = 4 ∨ l = 5 ∨ l = 6 := by omega
    rcases this with rfl | rfl | rfl | rfl | rfl | rfl | rfl <;> contradiction
theorem p_nm1 {t : tk_T} (h : ¬ p_nm f t = 0) : ∃ l, l < 7 ∧ t_wd f t l = true ∧ enc1 (p_nm f t) = [20 + nI l] := by
  revert h
  unfold p_nm
  split
  · next w => intro _; exact ⟨0, by decide, w, by decide⟩
  · split
    · next w => intro _; exact ⟨1, by decide, w, by decide⟩
    · split
      · next w => intro _; exact ⟨2, by decide, w, by decide⟩
      · split
        · next w => intro _; exact ⟨3, by decide, w, by decide⟩
        · split
          · next w => intro _; exact ⟨4, by decide, w, by decide⟩
          · split
            · next w => intro _; exact ⟨5, by decide, w, by decide⟩
            · split
              · next w => intro _; exact ⟨6, by decide, w, by decide⟩
              · intro x; exact absurd rfl x
theorem ve_nameA {re : Int32 → km_S → (km_S → Prop) → Prop} {k : Nat} {L : List Int32} {t : tk_T} {u : km_S} {Q : km_S → Prop} {K : Int32 → km_S → Prop} (C : m0_ f n lw μ) (h : mq_ f n lw μ k L t u) (hn : ∀ l, l < 7 → t_wd f t l = false) (kk : K (-1) u) : ∀ (j q : Nat) (l3 : Int32), l3.toInt = (q : Int) → q ≤ 7 → vX12_readPart_103 re K Q j (-1) l3 u := by
  have z7 : (7 : Int32).toInt = 7 := by decide
  intro j
  induction j with
  | zero => intro _ _ _ _; exact trivial
  | succ j ih =>
    intro q l3 hl hq
    unfold vX12_readPart_103
    refine ⟨fun _ => kk, fun c _ => ?_⟩
    rw [ki_le, z7, hl] at c
    have eq : l3.toNatClampNeg = q := by rw [ki_nat]; omega
    rw [eq]
    refine ve_isWord C h (fun w => absurd w (b_no (hn q (by omega)))) (fun w => ⟨fun _ => ?_, fun x => absurd rfl x⟩)
    unfold vX12_readPart_124
    intro v1 e1
    refine ih (q + 1) v1 ?_ (by omega)
    rw [e1, ki_add (by rw [hl, ki_z1]; omega) (by rw [hl, ki_z1]; omega), hl, ki_z1]
    omega
theorem ve_nameB {re : Int32 → km_S → (km_S → Prop) → Prop} {k : Nat} {L : List Int32} {t : tk_T} {u : km_S} {Q : km_S → Prop} {K : Int32 → km_S → Prop} {l : Nat} (C : m0_ f n lw μ) (h : mq_ f n lw μ k L t u) (hl7 : l < 7) (hw : t_wd f t l = true) (kk : K (nI l) u) : ∀ (j q : Nat) (l2 l3 : Int32), l3.toInt = (q : Int) → q ≤ 7 → l2 = (if l < q then nI l else -1) → vX12_readPart_103 re K Q j l2 l3 u := by
  have z7 : (7 : Int32).toInt = 7 := by decide
  intro j
  induction j with
  | zero => intro _ _ _ _ _ _; exact trivial
  | succ j ih =>
    intro q l2 l3 hl hq h2
    unfold vX12_readPart_103
    refine ⟨fun c => ?_, fun c _ => ?_⟩
    · rw [ki_le, z7, hl] at c
      rw [if_pos (by omega)] at h2
      rw [h2]
      exact kk
    rw [ki_le, z7, hl] at c
    have eq : l3.toNatClampNeg = q := by rw [ki_nat]; omega
    rw [eq]
    have nx : ∀ v1 : Int32, v1 = l3 + 1 → v1.toInt = ((q + 1 : Nat) : Int) := by
      intro v1 e1
      rw [e1, ki_add (by rw [hl, ki_z1]; omega) (by rw [hl, ki_z1]; omega), hl, ki_z1]
      omega
    refine ve_isWord C h (fun w => ⟨fun x => absurd x (by decide), fun _ => ?_⟩) (fun w => ⟨fun _ => ?_, fun x => absurd rfl x⟩)
    · unfold vX12_readPart_124
      intro v1 e1
      have el := t_wd_one (by omega) hl7 w hw
      refine ih (q + 1) l3 v1 (nx v1 e1) (by omega) ?_
      rw [if_pos (by omega), ki_eq, hl, t_nI (by omega), el]
    · unfold vX12_readPart_124
      intro v1 e1
      have nl : ¬ l = q := fun e => by rw [e, w] at hw; exact absurd hw (by decide)
      refine ih (q + 1) l2 v1 (nx v1 e1) (by omega) ?_
      rw [h2]
      by_cases c2 : l < q
      · rw [if_pos c2, if_pos (by omega)]
      · rw [if_neg c2, if_neg (by omega)]
theorem ve_number {re : Int32 → km_S → (km_S → Prop) → Prop} {k : Nat} {L : List Int32} {t : tk_T} {u : km_S} {Q : km_S → Prop} {K : Int32 → km_S → Prop} (C : m0_ f n lw μ) (h : mq_ f n lw μ k L t u) : ∀ (j p : Nat) (v l3 : Int32), l3.toInt = (p : Int) → p ≤ t.2.2 → K (t_num f (t.2.2 - p) p v) u → vX12_readPart_42 re K Q j v l3 u := by
  have ok := tt_ok h.2.2.2.1
  have o2 := ok.2
  have h5 := C.1.2.1
  intro j
  induction j with
  | zero => intro _ _ _ _ _ _; exact trivial
  | succ j ih =>
    intro p v l3 hl hp kk
    unfold vX12_readPart_42
    rw [ki_le, h.2.2.1.2.2.1, hl]
    refine ⟨fun c => ?_, fun c => ⟨fun d => absurd h.2.1 d, fun _ _ => ?_⟩⟩
    · rw [show t.2.2 - p = 0 by omega] at kk
      exact kk
    · have eq : l3.toNatClampNeg = p := by rw [ki_nat]; omega
      rw [eq, (gq_mt C h.1).2.2 p (by omega)]
      intro v17 e17 v18 e18
      refine ih (p + 1) v17 v18 ?_ (by omega) ?_
      · rw [e18, ki_add (by rw [hl, ki_z1]; omega) (by rw [hl, ki_z1]; omega), hl, ki_z1]
        omega
      · rw [show t.2.2 - p = (t.2.2 - (p + 1)) + 1 by omega] at kk
        rw [e17, Int32.mul_comm]
        exact kk
theorem ve_part {re : Int32 → km_S → (km_S → Prop) → Prop} {l1 : Int32} {R : tk_T → pr_T} (C : m0_ f n lw μ) (hre : mp_ f n lw μ (fun u Q => re (l1 + 1) u Q) R) : mp_ f n lw μ (fun u Q => vX12_readPart re l1 u Q) (p_part f n R) := by
  intro k L t u Q hk h kk
  show vX12_readPart re l1 u Q
  have ht := h.2.2.2.1
  have ok := tt_ok ht
  have o1 := ok.1
  have o2 := ok.2
  have h5 := C.1.2.1
  have hl := h.2.2.2.2.2
  have hc := h.2.2.2.2.1
  have el := enc_len L
  unfold vX12_readPart
  rw [h.2.2.1.2.2.2.1]
  refine ⟨fun _ => ⟨fun c => ⟨fun d => ?_, fun d => ?_⟩, fun c => ?_⟩, fun c => absurd h.2.1 c⟩
  · have c := fun q => c (t_rk2.2 q)
    have d := fun q => d (t_rk1.2 q)
    refine vm_isSign h.2.2.1 (by decide) (fun e => ⟨fun x => absurd x (by decide), fun _ => ?_⟩) (fun e => ⟨fun _ => ?_, fun x => absurd rfl x⟩)
    · rw [p_part_par e] at kk
      refine ve_adv1 C h (by rw [e]; decide) (fun u1 g1 => ?_)
      refine hre k L (p_adv f n t) u1 _ hk (mq_le g1) (fun u2 g2 => ?_)
      revert g2 kk
      cases R (p_adv f n t) with
      | inl p =>
        intro kk g2
        exact ⟨fun _ => ve_200F g2 (kk u2 g2), fun x => absurd x g2.2.1⟩
      | inr q =>
        obtain ⟨t2, cs⟩ := q
        intro kk g2
        have g2 : mq_ f n lw μ k (L ++ cs) t2 u2 := g2
        refine ⟨fun x => absurd g2.2.1 x, fun _ => ?_⟩
        refine vm_isSign g2.2.2.1 (by decide) (fun e2 => ⟨fun _ => ?_, fun x => absurd x (by decide)⟩) (fun e2 => ⟨fun x => absurd rfl x, fun _ => ?_⟩)
        · refine ⟨fun x => absurd g2.2.1 x, fun _ => ve_adv1 C g2 (by rw [e2]; decide) (fun u3 g3 => kk u3 (mr_pre ?_))⟩
          rw [show p_sg f n 41 t2 = .inr (p_adv f n t2, []) from if_pos e2]
          show mq_ f n lw μ k ((L ++ cs) ++ []) _ u3
          rw [List.append_nil]
          exact mq_le g3
        · refine ve_wrong g2 (by decide) (fun u3 g3 => ve_200F g3 (kk u3 (mr_pre ?_)))
          rw [show p_sg f n 41 t2 = .inl t2.2.1 from if_neg e2]
          exact g3
    · have no : ¬ fp_ f t := by
        rintro (q | q | q)
        · exact c q.1
        · exact d q.1
        · exact e q
      rw [p_part_no no] at kk
      exact ve_wrong h (by decide) (fun u' h' => ve_200F h' (kk u' h'))
  · have d := t_rk1.1 d
    intro j
    by_cases e : p_nm f t = 0
    · have no : ¬ fp_ f t := by
        rintro (q | q | q)
        · rw [d] at q; exact absurd q.1 (by decide)
        · exact q.2 e
        · rw [d] at q; exact absurd q (by decide)
      rw [p_part_no no] at kk
      refine ve_nameA C h (p_nm0 e) ?_ j 0 0 (by decide) (by decide)
      unfold vX12_readPart_130 vX12_readPart_140
      refine ⟨fun x => absurd rfl x, fun _ => ve_wrong h (by decide) (fun u' h' => ve_emitF h' (ve_200F h' (kk u' h')))⟩
    · obtain ⟨l, l7, w, en⟩ := p_nm1 e
      rw [p_part_name d e] at kk
      refine ve_nameB C h l7 w ?_ j 0 (-1) 0 (by decide) (by decide) rfl
      unfold vX12_readPart_130 vX12_readPart_140
      refine ⟨fun _ => ?_, fun x => ?_⟩
      · have o3 := tt_pos ht (by rw [d]; decide)
        refine ve_emit0 C h.1 h.2.1 hc (by omega) ?_
        refine ve_200 (L := L ++ [p_nm f t]) (k := k) (t := t) C (gq_si (gq_sa h.1 (by omega)) (.inl rfl)) h.2.1 h.2.2.1 ht ?_ ?_ (fun u' h' => kk u' h')
        · rw [enc_app, enc_one, en]
          exact mD_emit hc (by omega)
        · rw [List.length_append]
          show L.length + 1 + k ≤ t.2.2
          omega
      · rw [ki_eq, t_nI (by omega), ki_zm] at x
        omega
  · have c := t_rk2.1 c
    have es : (km_i u 65 - km_i u 64).toInt = (t.2.2 : Int) - t.2.1 := by
      rw [ki_sub (by rw [h.2.2.1.2.2.1, h.2.2.1.2.1]; omega) (by rw [h.2.2.1.2.2.1, h.2.2.1.2.1]; omega), h.2.2.1.2.2.1, h.2.2.1.2.1]
    have z6 : (6 : Int32).toInt = 6 := by decide
    rw [ki_le, es, z6]
    refine ⟨fun d => ?_, fun d => ?_⟩
    · have d6 : ¬ 6 < t.2.2 - t.2.1 := by omega
      rw [p_part_num c d6] at kk
      have o3 := tt_pos ht (by rw [c]; decide)
      have nn := t_num_lo (f := f) (t.2.2 - t.2.1) t.2.1 0 0 (by omega) (by decide) (by decide) (fun i a b => tt_dig ht c i a (by omega))
      unfold vX12_readPart_35
      rintro v19 rfl j
      refine ve_number C h j t.2.1 0 _ h.2.2.1.2.1 o1 ?_
      unfold vX12_readPart_78
      have en : enc1 (t_num f (t.2.2 - t.2.1) t.2.1 0) = [0, t_num f (t.2.2 - t.2.1) t.2.1 0] := if_pos (by rw [ki_le, ki_z0]; exact nn.1)
      have hE : mD_ lw (enc L ++ [0]) _ := mD_emit (v := 0) hc (by omega)
      refine ve_emit0 C h.1 h.2.1 hc (by omega) ?_
      refine ve_emit0 C (gq_si (gq_sa h.1 (by omega)) (.inl rfl)) h.2.1 hE (by rw [List.length_append]; show (enc L).length + 1 ≤ 2000; omega) ?_
      refine ve_200 (L := L ++ [t_num f (t.2.2 - t.2.1) t.2.1 0]) (k := k) (t := t) C (gq_si (gq_sa (gq_si (gq_sa h.1 (by omega)) (.inl rfl)) (by omega)) (.inl rfl)) h.2.1 h.2.2.1 ht ?_ ?_ (fun u' h' => kk u' h')
      · rw [enc_app, enc_one, en]
        have := mD_emit (v := t_num f (t.2.2 - t.2.1) t.2.1 0) hE (by rw [List.length_append]; show (enc L).length + 1 ≤ 2000; omega)
        rw [List.append_assoc] at this
        exact this
      · rw [List.length_append]
        show L.length + 1 + k ≤ t.2.2
        omega
    · have no : ¬ fp_ f t := by
        rintro (q | q | q)
        · have := q.2; omega
        · rw [c] at q; exact absurd q.1 (by decide)
        · rw [c] at q; exact absurd q (by decide)
      rw [p_part_no no] at kk
      refine ve_wrong h (by decide) (fun u' h' => ?_)
      unfold vX12_readPart_35
      rintro v19 rfl j
      have fin : ∀ v : Int32, vX12_readPart_78 re (vX12_readPart_200 re Q) Q v u' := by
        intro v
        unfold vX12_readPart_78
        exact ve_emitF h' (ve_emitF h' (ve_200F h' (kk u' h')))
      cases j with
      | zero => exact trivial
      | succ j =>
        unfold vX12_readPart_42
        exact ⟨fun _ => fin 0, fun _ => ⟨fun _ => fin 0, fun x => absurd x h'.2.1⟩⟩
theorem ve_loopT {re : Int32 → km_S → (km_S → Prop) → Prop} {l1 : Int32} {R : tk_T → pr_T} {k : Nat} {L : List Int32} {Q : km_S → Prop} (C : m0_ f n lw μ) (hk : 1 ≤ k) (h1 : mp_ f n lw μ (fun u Q => vX12_readPart re l1 u Q) (p_part f n R)) : ∀ (j m : Nat) (r : pr_T) (u : km_S), (∀ t cs, r = .inr (t, cs) → 500 < (L ++ cs).length + k + m) → mr_ f n lw μ k L r u → (∀ u', mr_ f n lw μ k L (p_bind r (p_loop f n (p_part f n R) p_opT m)) u' → Q u') → vX12_readTerm_5 re Q j l1 u := by
  intro j
  induction j with
  | zero => intro _ _ _ _ _ _; exact trivial
  | succ j ih =>
    intro m r u hm h kk
    unfold vX12_readTerm_5
    cases r with
    | inl p => exact ⟨fun _ => kk u h, fun c => absurd c h.2.1⟩
    | inr q =>
      obtain ⟨t, cs⟩ := q
      have h : mq_ f n lw μ k (L ++ cs) t u := h
      have hm := hm t cs rfl
      have ok := tt_ok h.2.2.2.1
      have o1 := ok.1
      have o2 := ok.2
      have h5 := C.1.2.1
      have hl := h.2.2.2.2.2
      obtain ⟨m, rfl⟩ : ∃ q, m = q + 1 := ⟨m - 1, by omega⟩
      refine ⟨fun c => absurd h.2.1 c, fun _ => ?_⟩
      have go : ∀ (c v : Int32), p_opT t = v → ¬ v = 0 → ¬ t.1 = 0 → enc1 v = [c] → vX12_readTerm_44 re (vX12_readTerm_5 re Q j) Q l1 c u := by
        intro c v hop hv0 ht he
        unfold vX12_readTerm_44
        refine ve_adv1 C h ht (fun u1 g1 => ?_)
        refine h1 (k + 1) (L ++ cs) (p_adv f n t) u1 _ (by omega) g1 (fun u2 g2 => ?_)
        refine ve_put C he g2 (fun u3 g3 => ?_)
        refine ih m (p_bind (.inr (t, cs)) (fun t => p_bind (p_part f n R (p_adv f n t)) (p_put v))) u3 (fun t' cs' e' => ?_) (mr_pre g3) (fun u' h' => kk u' ?_)
        · revert e'
          cases e : p_bind (p_part f n R (p_adv f n t)) (p_put v) with
          | inl p => rw [p_bind_l e]; intro e'; exact absurd e' (by simp)
          | inr q =>
            obtain ⟨t3, ds⟩ := q
            rw [p_bind_r e]
            intro e'
            have e2 : cs' = cs ++ ds := by
              have := Sum.inr.inj e'
              exact (congrArg Prod.snd this).symm
            have d1 : 1 ≤ ds.length := by
              revert e
              cases p_part f n R (p_adv f n t) with
              | inl p => intro e; exact absurd e (by unfold p_bind; simp)
              | inr q =>
                obtain ⟨t4, es⟩ := q
                rw [p_bind_r (t2 := t4) (ds := [v]) rfl]
                intro e
                have := congrArg Prod.snd (Sum.inr.inj e)
                have e3 : ds = es ++ [v] := this.symm
                rw [e3, List.length_append]
                show 1 ≤ es.length + 1
                omega
            rw [e2, ← List.append_assoc, List.length_append]
            omega
        · rw [p_bind_assoc] at h'
          rw [p_bind_congr (k' := fun t => p_bind (p_bind (p_part f n R (p_adv f n t)) (p_put v)) (p_loop f n (p_part f n R) p_opT m)) (by rw [p_loop_go (by rw [hop]; exact hv0), hop])]
          exact h'
      have g30 : ∀ (e : t.1 = 42 ∨ t.1 = 47), vX12_readTerm_30 re (vX12_readTerm_5 re Q j) Q l1 u := by
        intro e
        unfold vX12_readTerm_30
        refine vm_isSign h.2.2.1 (by decide) (fun d => ⟨fun x => absurd x (by decide), fun _ => ?_⟩) (fun d => ⟨fun _ => ?_, fun x => absurd rfl x⟩)
        · exact go 3 (-10) (if_pos d) (by decide) (by rw [d]; decide) (by decide)
        · have d2 : t.1 = 47 := e.elim (fun x => absurd x d) id
          exact go 4 (-11) ((if_neg d).trans (if_pos d2)) (by decide) (by rw [d2]; decide) (by decide)
      refine vm_isSign h.2.2.1 (by decide) (fun d => ⟨fun _ => g30 (.inl d), fun x => absurd x (by decide)⟩) (fun d => ⟨fun x => absurd rfl x, fun _ => ?_⟩)
      refine vm_isSign h.2.2.1 (by decide) (fun d2 => ⟨fun x => absurd x (by decide), fun _ => g30 (.inr d2)⟩) (fun d2 => ⟨fun _ => kk u (mr_nil (p_loop_stop ((if_neg d).trans (if_neg d2))) h), fun x => absurd rfl x⟩)
theorem ve_term {re : Int32 → km_S → (km_S → Prop) → Prop} {l1 : Int32} {R : tk_T → pr_T} (C : m0_ f n lw μ) (hre : mp_ f n lw μ (fun u Q => re (l1 + 1) u Q) R) : mp_ f n lw μ (fun u Q => vX12_readTerm re l1 u Q) (p_term f n R) := by
  intro k L t u Q hk h kk
  show vX12_readTerm re l1 u Q
  unfold vX12_readTerm
  refine ve_part C hre k L t u _ hk h (fun u1 g1 => ?_)
  intro j
  exact ve_loopT C hk (ve_part C hre) j 500 _ u1 (fun _ _ _ => by omega) g1 kk

theorem ve_loopS {re : Int32 → km_S → (km_S → Prop) → Prop} {l1 : Int32} {R : tk_T → pr_T} {k : Nat} {L : List Int32} {Q : km_S → Prop} (C : m0_ f n lw μ) (hk : 1 ≤ k) (h1 : mp_ f n lw μ (fun u Q => vX12_readTerm re l1 u Q) (p_term f n R)) : ∀ (j m : Nat) (r : pr_T) (u : km_S), (∀ t cs, r = .inr (t, cs) → 500 < (L ++ cs).length + k + m) → mr_ f n lw μ k L r u → (∀ u', mr_ f n lw μ k L (p_bind r (p_loop f n (p_term f n R) p_opS m)) u' → Q u') → vX12_readSum_5 re Q j l1 u := by
  intro j
  induction j with
  | zero => intro _ _ _ _ _ _; exact trivial
  | succ j ih =>
    intro m r u hm h kk
    unfold vX12_readSum_5
    cases r with
    | inl p => exact ⟨fun _ => kk u h, fun c => absurd c h.2.1⟩
    | inr q =>
      obtain ⟨t, cs⟩ := q
      have h : mq_ f n lw μ k (L ++ cs) t u := h
      have hm := hm t cs rfl
      have ok := tt_ok h.2.2.2.1
      have o1 := ok.1
      have o2 := ok.2
      have h5 := C.1.2.1
      have hl := h.2.2.2.2.2
      obtain ⟨m, rfl⟩ : ∃ q, m = q + 1 := ⟨m - 1, by omega⟩
      refine ⟨fun c => absurd h.2.1 c, fun _ => ?_⟩
      have go : ∀ (c v : Int32), p_opS t = v → ¬ v = 0 → ¬ t.1 = 0 → enc1 v = [c] → vX12_readSum_44 re (vX12_readSum_5 re Q j) Q l1 c u := by
        intro c v hop hv0 ht he
        unfold vX12_readSum_44
        refine ve_adv1 C h ht (fun u1 g1 => ?_)
        refine h1 (k + 1) (L ++ cs) (p_adv f n t) u1 _ (by omega) g1 (fun u2 g2 => ?_)
        refine ve_put C he g2 (fun u3 g3 => ?_)
        refine ih m (p_bind (.inr (t, cs)) (fun t => p_bind (p_term f n R (p_adv f n t)) (p_put v))) u3 (fun t' cs' e' => ?_) (mr_pre g3) (fun u' h' => kk u' ?_)
        · revert e'
          cases e : p_bind (p_term f n R (p_adv f n t)) (p_put v) with
          | inl p => rw [p_bind_l e]; intro e'; exact absurd e' (by simp)
          | inr q =>
            obtain ⟨t3, ds⟩ := q
            rw [p_bind_r e]
            intro e'
            have e2 : cs' = cs ++ ds := by
              have := Sum.inr.inj e'
              exact (congrArg Prod.snd this).symm
            have d1 : 1 ≤ ds.length := by
              revert e
              cases p_term f n R (p_adv f n t) with
              | inl p => intro e; exact absurd e (by unfold p_bind; simp)
              | inr q =>
                obtain ⟨t4, es⟩ := q
                rw [p_bind_r (t2 := t4) (ds := [v]) rfl]
                intro e
                have := congrArg Prod.snd (Sum.inr.inj e)
                have e3 : ds = es ++ [v] := this.symm
                rw [e3, List.length_append]
                show 1 ≤ es.length + 1
                omega
            rw [e2, ← List.append_assoc, List.length_append]
            omega
        · rw [p_bind_assoc] at h'
          rw [p_bind_congr (k' := fun t => p_bind (p_bind (p_term f n R (p_adv f n t)) (p_put v)) (p_loop f n (p_term f n R) p_opS m)) (by rw [p_loop_go (by rw [hop]; exact hv0), hop])]
          exact h'
      have g30 : ∀ (e : t.1 = 43 ∨ t.1 = 45), vX12_readSum_30 re (vX12_readSum_5 re Q j) Q l1 u := by
        intro e
        unfold vX12_readSum_30
        refine vm_isSign h.2.2.1 (by decide) (fun d => ⟨fun x => absurd x (by decide), fun _ => ?_⟩) (fun d => ⟨fun _ => ?_, fun x => absurd rfl x⟩)
        · exact go 1 (-8) (if_pos d) (by decide) (by rw [d]; decide) (by decide)
        · have d2 : t.1 = 45 := e.elim (fun x => absurd x d) id
          exact go 2 (-9) ((if_neg d).trans (if_pos d2)) (by decide) (by rw [d2]; decide) (by decide)
      refine vm_isSign h.2.2.1 (by decide) (fun d => ⟨fun _ => g30 (.inl d), fun x => absurd x (by decide)⟩) (fun d => ⟨fun x => absurd rfl x, fun _ => ?_⟩)
      refine vm_isSign h.2.2.1 (by decide) (fun d2 => ⟨fun x => absurd x (by decide), fun _ => g30 (.inr d2)⟩) (fun d2 => ⟨fun _ => kk u (mr_nil (p_loop_stop ((if_neg d).trans (if_neg d2))) h), fun x => absurd rfl x⟩)
theorem ve_sum {re : Int32 → km_S → (km_S → Prop) → Prop} {l1 : Int32} {R : tk_T → pr_T} (C : m0_ f n lw μ) (hre : mp_ f n lw μ (fun u Q => re (l1 + 1) u Q) R) : mp_ f n lw μ (fun u Q => vX12_readSum re l1 u Q) (p_sum f n R) := by
  intro k L t u Q hk h kk
  show vX12_readSum re l1 u Q
  unfold vX12_readSum
  refine ve_term C hre k L t u _ hk h (fun u1 g1 => ?_)
  intro j
  exact ve_loopS C hk (ve_term C hre) j 500 _ u1 (fun _ _ _ => by omega) g1 kk

theorem ve_test16 {re : Int32 → km_S → (km_S → Prop) → Prop} {l1 l2 : Int32} {R : tk_T → pr_T} {k : Nat} {L : List Int32} {t : tk_T} {u : km_S} {Q : km_S → Prop} (C : m0_ f n lw μ) (hk : 1 ≤ k) (hre : mp_ f n lw μ (fun u Q => re (l1 + 1) u Q) R) (h : mq_ f n lw μ k L t u) (kk : ∀ u', mr_ f n lw μ k L (p_cmp f n R t) u' → vX12_readTest_76 re Q l2 u') : vX12_readTest_16 re Q l1 l2 u := by
  unfold vX12_readTest_16
  refine ve_sum C hre k L t u _ hk h (fun u1 g1 => ?_)
  unfold p_cmp at kk
  revert g1 kk
  cases p_sum f n R t with
  | inl p =>
    intro kk g1
    exact ⟨fun _ => kk u1 g1, fun c => absurd c g1.2.1⟩
  | inr q =>
    obtain ⟨t1, cs⟩ := q
    intro kk g1
    have g1 : mq_ f n lw μ k (L ++ cs) t1 u1 := g1
    refine ⟨fun c => absurd g1.2.1 c, fun _ => ?_⟩
    have go : ∀ (c v : Int32), p_opC t1 = v → ¬ v = 0 → ¬ t1.1 = 0 → enc1 v = [c] → vX12_readTest_61 re (vX12_readTest_76 re Q) Q l1 l2 c u1 := by
      intro c v hop hv0 ht he
      unfold vX12_readTest_61
      refine ve_adv1 C g1 ht (fun u2 g2 => ?_)
      refine ve_sum C hre (k + 1) (L ++ cs) (p_adv f n t1) u2 _ (by omega) g2 (fun u3 g3 => ?_)
      refine ve_put C he g3 (fun u4 g4 => kk u4 (mr_pre ?_))
      rw [show p_cmp2 f n R t1 = p_bind (p_sum f n R (p_adv f n t1)) (p_put v) from (if_neg (by rw [hop]; exact hv0)).trans (by rw [hop])]
      exact g4
    have g46 : ∀ (e : t1.1 = 60 ∨ t1.1 = 61), vX12_readTest_46 re (vX12_readTest_76 re Q) Q l1 l2 u1 := by
      intro e
      unfold vX12_readTest_46
      refine vm_isSign g1.2.2.1 (by decide) (fun d => ⟨fun x => absurd x (by decide), fun _ => ?_⟩) (fun d => ⟨fun _ => ?_, fun x => absurd rfl x⟩)
      · exact go 5 (-12) (if_pos d) (by decide) (by rw [d]; decide) (by decide)
      · have d2 : t1.1 = 61 := e.elim (fun x => absurd x d) id
        exact go 6 (-13) ((if_neg d).trans (if_pos d2)) (by decide) (by rw [d2]; decide) (by decide)
    refine vm_isSign g1.2.2.1 (by decide) (fun d => ⟨fun _ => g46 (.inl d), fun x => absurd x (by decide)⟩) (fun d => ⟨fun x => absurd rfl x, fun _ => ?_⟩)
    refine vm_isSign g1.2.2.1 (by decide) (fun d2 => ⟨fun x => absurd x (by decide), fun _ => g46 (.inr d2)⟩) (fun d2 => ⟨fun _ => kk u1 (mr_nil ?_ g1), fun x => absurd rfl x⟩)
    exact if_pos ((if_neg d).trans (if_neg d2))
theorem ve_test {re : Int32 → km_S → (km_S → Prop) → Prop} {l1 : Int32} {R : tk_T → pr_T} (C : m0_ f n lw μ) (hre : mp_ f n lw μ (fun u Q => re (l1 + 1) u Q) R) : mp_ f n lw μ (fun u Q => vX12_readTest re l1 u Q) (p_test f n R) := by
  intro k L t u Q hk h kk
  show vX12_readTest re l1 u Q
  unfold vX12_readTest
  refine ve_isWord C h (fun w => ⟨fun x => absurd x (by decide), fun _ => ?_⟩) (fun w => ⟨fun _ => ?_, fun x => absurd rfl x⟩)
  · have ht : ¬ t.1 = 0 := by rw [(t_wd_iff.1 w).1]; decide
    refine ve_adv1 C h ht (fun u1 g1 => ?_)
    refine ve_test16 C (by omega) hre g1 (fun u2 g2 => ?_)
    unfold vX12_readTest_76
    refine ⟨fun x => absurd x (by decide), fun _ => ve_put (v := -16) C (by decide) g2 (fun u3 g3 => kk u3 ?_)⟩
    rw [show p_test f n R t = p_bind (p_cmp f n R (p_adv f n t)) (p_put (-16)) from if_pos w]
    exact g3
  · refine ve_test16 C hk hre h (fun u2 g2 => ?_)
    unfold vX12_readTest_76
    refine ⟨fun _ => kk u2 ?_, fun x => absurd rfl x⟩
    rw [show p_test f n R t = p_cmp f n R t from if_neg (b_no w)]
    exact g2
theorem ve_loopE {re : Int32 → km_S → (km_S → Prop) → Prop} {l1 : Int32} {R : tk_T → pr_T} {k : Nat} {L : List Int32} {Q : km_S → Prop} (C : m0_ f n lw μ) (hk : 1 ≤ k) (h1 : mp_ f n lw μ (fun u Q => vX12_readTest re l1 u Q) (p_test f n R)) : ∀ (j m : Nat) (r : pr_T) (u : km_S), (∀ t cs, r = .inr (t, cs) → 500 < (L ++ cs).length + k + m) → mr_ f n lw μ k L r u → (∀ u', mr_ f n lw μ k L (p_bind r (p_loop f n (p_test f n R) (p_opE f) m)) u' → Q u') → vX12_readExpression_67 re Q j l1 u := by
  intro j
  induction j with
  | zero => intro _ _ _ _ _ _; exact trivial
  | succ j ih =>
    intro m r u hm h kk
    unfold vX12_readExpression_67
    cases r with
    | inl p => exact ⟨fun _ => kk u h, fun c => absurd c h.2.1⟩
    | inr q =>
      obtain ⟨t, cs⟩ := q
      have h : mq_ f n lw μ k (L ++ cs) t u := h
      have hm := hm t cs rfl
      have ok := tt_ok h.2.2.2.1
      have o1 := ok.1
      have o2 := ok.2
      have h5 := C.1.2.1
      have hl := h.2.2.2.2.2
      obtain ⟨m, rfl⟩ : ∃ q, m = q + 1 := ⟨m - 1, by omega⟩
      refine ⟨fun c => absurd h.2.1 c, fun _ => ?_⟩
      have go : ∀ (c v : Int32), p_opE f t = v → ¬ v = 0 → ¬ t.1 = 0 → enc1 v = [c] → vX12_readExpression_111 re (vX12_readExpression_67 re Q j) Q l1 c u := by
        intro c v hop hv0 ht he
        unfold vX12_readExpression_111
        refine ve_adv1 C h ht (fun u1 g1 => ?_)
        refine h1 (k + 1) (L ++ cs) (p_adv f n t) u1 _ (by omega) g1 (fun u2 g2 => ?_)
        refine ve_put C he g2 (fun u3 g3 => ?_)
        refine ih m (p_bind (.inr (t, cs)) (fun t => p_bind (p_test f n R (p_adv f n t)) (p_put v))) u3 (fun t' cs' e' => ?_) (mr_pre g3) (fun u' h' => kk u' ?_)
        · revert e'
          cases e : p_bind (p_test f n R (p_adv f n t)) (p_put v) with
          | inl p => rw [p_bind_l e]; intro e'; exact absurd e' (by simp)
          | inr q =>
            obtain ⟨t3, ds⟩ := q
            rw [p_bind_r e]
            intro e'
            have e2 : cs' = cs ++ ds := by
              have := Sum.inr.inj e'
              exact (congrArg Prod.snd this).symm
            have d1 : 1 ≤ ds.length := by
              revert e
              cases p_test f n R (p_adv f n t) with
              | inl p => intro e; exact absurd e (by unfold p_bind; simp)
              | inr q =>
                obtain ⟨t4, es⟩ := q
                rw [p_bind_r (t2 := t4) (ds := [v]) rfl]
                intro e
                have := congrArg Prod.snd (Sum.inr.inj e)
                have e3 : ds = es ++ [v] := this.symm
                rw [e3, List.length_append]
                show 1 ≤ es.length + 1
                omega
            rw [e2, ← List.append_assoc, List.length_append]
            omega
        · rw [p_bind_assoc] at h'
          rw [p_bind_congr (k' := fun t => p_bind (p_bind (p_test f n R (p_adv f n t)) (p_put v)) (p_loop f n (p_test f n R) (p_opE f) m)) (by rw [p_loop_go (by rw [hop]; exact hv0), hop])]
          exact h'
      have g94 : ∀ (e : t_wd f t 9 = true ∨ t_wd f t 10 = true), vX12_readExpression_94 re (vX12_readExpression_67 re Q j) Q l1 u := by
        intro e
        have t1 : ¬ t.1 = 0 := by rcases e with w | w <;> (rw [(t_wd_iff.1 w).1]; decide)
        unfold vX12_readExpression_94
        refine ve_isWord C h (fun d => ⟨fun x => absurd x (by decide), fun _ => ?_⟩) (fun d => ⟨fun _ => ?_, fun x => absurd rfl x⟩)
        · exact go 7 (-14) (if_pos d) (by decide) t1 (by decide)
        · have d2 : t_wd f t 10 = true := e.elim (fun x => absurd x (b_no d)) id
          exact go 8 (-15) ((if_neg (b_no d)).trans (if_pos d2)) (by decide) t1 (by decide)
      refine ve_isWord C h (fun d => ⟨fun _ => g94 (.inl d), fun x => absurd x (by decide)⟩) (fun d => ⟨fun x => absurd rfl x, fun _ => ?_⟩)
      refine ve_isWord C h (fun d2 => ⟨fun x => absurd x (by decide), fun _ => g94 (.inr d2)⟩) (fun d2 => ⟨fun _ => kk u (mr_nil (p_loop_stop ((if_neg (b_no d)).trans (if_neg (b_no d2)))) h), fun x => absurd rfl x⟩)
/-- what can't begin an expression -/
theorem p_expr_no {d : Nat} {t : tk_T} (h1 : ¬ t.1 = 1) (h2 : ¬ t.1 = 2) (h3 : ¬ t.1 = 40) : p_expr f n d t = .inl t.2.1 := by
  cases d with
  | zero => rfl
  | succ d =>
    have no : ¬ fp_ f t := by
      rintro (q | q | q)
      · exact h2 q.1
      · exact h1 q.1
      · exact h3 q
    have w : t_wd f t 11 = false := t_wd_no (fun x => h1 x.1)
    have e1 : p_term f n (p_expr f n d) t = .inl t.2.1 := by
      unfold p_term
      rw [p_part_no no]
      rfl
    have e2 : p_cmp f n (p_expr f n d) t = .inl t.2.1 := by
      unfold p_cmp p_sum
      rw [e1]
      rfl
    show p_bind (p_test f n (p_expr f n d) t) _ = _
    rw [show p_test f n (p_expr f n d) t = p_cmp f n (p_expr f n d) t from if_neg (b_no w), e2]
    rfl
theorem ve_expr (C : m0_ f n lw μ) : ∀ (d D : Nat) (l1 : Int32), l1.toInt = 8 - (d : Int) → d ≤ 8 → mp_ f n lw μ (fun u Q => vX12_readExpression D l1 u Q) (p_expr f n d) := by
  have z8 : (8 : Int32).toInt = 8 := by decide
  intro d
  induction d with
  | zero =>
    intro D l1 hl _ k L t u Q hk h kk
    cases D with
    | zero => exact trivial
    | succ D =>
      show vX12_readExpression_b (vX12_readExpression D) l1 u Q
      have e8 : l1 = 8 := ki_eq.2 (by rw [hl, z8]; omega)
      have f54 : ∀ u', mF_ lw μ t.2.1 u' → vX12_readExpression_54 (vX12_readExpression D) Q l1 u' := by
        intro u' h'
        unfold vX12_readExpression_54
        exact ⟨fun x => absurd x h'.2.1, fun _ => kk u' h'⟩
      have f30 : ∀ s0 : Int32, vX12_readExpression_30 (vX12_readExpression D) Q l1 s0 u := by
        intro s0
        unfold vX12_readExpression_30
        exact ⟨fun _ => ⟨fun x => absurd e8 x, fun _ => ve_wrong h (by decide) f54⟩, fun _ => ve_wrong h (by decide) f54⟩
      unfold vX12_readExpression_b vX12_readExpression_25
      exact ⟨fun _ => f30 1, fun _ => ⟨fun _ => f30 1, fun _ => vm_isSign h.2.2.1 (by decide) (fun _ => ⟨fun _ => f30 0, fun _ => f30 1⟩) (fun _ => ⟨fun _ => f30 0, fun _ => f30 1⟩)⟩⟩
  | succ d ih =>
    intro D l1 hl hd k L t u Q hk h kk
    cases D with
    | zero => exact trivial
    | succ D =>
      show vX12_readExpression_b (vX12_readExpression D) l1 u Q
      have n8 : ¬ l1 = 8 := fun e => by rw [e, z8] at hl; omega
      have hre : mp_ f n lw μ (fun u Q => vX12_readExpression D (l1 + 1) u Q) (p_expr f n d) := by
        refine ih D (l1 + 1) ?_ (by omega)
        rw [ki_add (by rw [hl, ki_z1]; omega) (by rw [hl, ki_z1]; omega), hl, ki_z1]
        omega
      have yes : vX12_readExpression_30 (vX12_readExpression D) Q l1 1 u := by
        unfold vX12_readExpression_30
        refine ⟨fun _ => ⟨fun _ => ?_, fun x => absurd x n8⟩, fun x => absurd x (by decide)⟩
        unfold vX12_readExpression_54
        refine ⟨fun _ => ?_, fun x => absurd h.2.1 x⟩
        refine ve_test C hre k L t u _ hk h (fun u1 g1 => ?_)
        intro j
        exact ve_loopE C hk (ve_test C hre) j 500 _ u1 (fun _ _ _ => by omega) g1 kk
      unfold vX12_readExpression_b vX12_readExpression_25
      rw [h.2.2.1.2.2.2.1]
      refine ⟨fun _ => yes, fun c => ⟨fun _ => yes, fun c2 => vm_isSign h.2.2.1 (by decide) (fun _ => ⟨fun x => absurd x (by decide), fun _ => yes⟩) (fun c3 => ⟨fun _ => ?_, fun x => absurd rfl x⟩)⟩⟩
      rw [p_expr_no (fun q => c (t_rk1.2 q)) (fun q => c2 (t_rk2.2 q)) c3] at kk
      unfold vX12_readExpression_30
      refine ⟨fun x => absurd rfl x, fun _ => ve_wrong h (by decide) (fun u' h' => ?_)⟩
      unfold vX12_readExpression_54
      exact ⟨fun x => absurd x h'.2.1, fun _ => kk u' h'⟩
end
end
section
/-! the reference's text -/
def p_ops (rs : List (Bool × List Int32)) : List Int32 := rs.flatMap (fun r => r.2)
theorem p_ops_app {a b : List (Bool × List Int32)} : p_ops (a ++ b) = p_ops a ++ p_ops b := List.flatMap_append
theorem p_ops_one {a : Bool × List Int32} : p_ops [a] = a.2 := by
  unfold p_ops
  rw [List.flatMap_cons, List.flatMap_nil, List.append_nil]
def gu_ (lw : Nat) (μ u : km_S) : Prop := (∀ j, j ≠ 59 → j ≠ 60 → j ≠ 62 → j ≠ 63 → j ≠ 64 → j ≠ 65 → j ≠ 66 → j ≠ 67 → km_i u j = km_i μ j) ∧ (∀ g, g ≠ 54 → g ≠ 55 → g ≠ 56 → g ≠ 58 → km_a u g = km_a μ g) ∧ (∀ i, i < 900 * lw → km_a u 56 i = km_a μ 56 i) ∧ (∀ i, i < 13 * lw → km_a u 55 i = km_a μ 55 i) ∧ (∀ i, i < 12 * lw → km_a u 58 i = km_a μ 58 i) ∧ (∀ i, i ≠ lw → km_a u 54 i = km_a μ 54 i) ∧ u.2.2 = μ.2.2
theorem gu_refl {lw : Nat} {μ : km_S} : gu_ lw μ μ := ⟨fun _ _ _ _ _ _ _ _ _ => rfl, fun _ _ _ _ _ => rfl, fun _ _ => rfl, fun _ _ => rfl, fun _ _ => rfl, fun _ _ => rfl, rfl⟩
theorem gu_gf {lw : Nat} {μ u v : km_S} (h : gu_ lw μ u) (k : gq_ lw u v) : gu_ lw μ v := by
  refine ⟨fun j a b c d e g x y => (k.1 j a b c d e g x y).trans (h.1 j a b c d e g x y), fun g a b c d => (k.2.1 g c).trans (h.2.1 g a b c d), fun i hi => (k.2.2.1 i hi).trans (h.2.2.1 i hi), fun i hi => ?_, fun i hi => ?_, fun i hi => ?_, k.2.2.2.trans h.2.2.2.2.2.2⟩
  · rw [k.2.1 55 (by decide)]; exact h.2.2.2.1 i hi
  · rw [k.2.1 58 (by decide)]; exact h.2.2.2.2.1 i hi
  · rw [k.2.1 54 (by decide)]; exact h.2.2.2.2.2.1 i hi
theorem gu_55 {lw : Nat} {μ u : km_S} {i : Nat} {v : Int32} (h : gu_ lw μ u) (hi : 13 * lw ≤ i) : gu_ lw μ (km_sa u 55 i v) := by
  refine ⟨h.1, fun g a b c d => ?_, h.2.2.1, fun q hq => ?_, h.2.2.2.2.1, h.2.2.2.2.2.1, h.2.2.2.2.2.2⟩
  · refine Eq.trans ?_ (h.2.1 g a b c d)
    show (if g = 55 then _ else u.2.1 g) = u.2.1 g
    exact if_neg b
  · refine Eq.trans ?_ (h.2.2.2.1 q hq)
    show upd (u.2.1 55) i v q = u.2.1 55 q
    exact w_updN (by omega)
theorem gu_58 {lw : Nat} {μ u : km_S} {i : Nat} {v : Int32} (h : gu_ lw μ u) (hi : 12 * lw ≤ i) : gu_ lw μ (km_sa u 58 i v) := by
  refine ⟨h.1, fun g a b c d => ?_, h.2.2.1, h.2.2.2.1, fun q hq => ?_, h.2.2.2.2.2.1, h.2.2.2.2.2.2⟩
  · refine Eq.trans ?_ (h.2.1 g a b c d)
    show (if g = 58 then _ else u.2.1 g) = u.2.1 g
    exact if_neg d
  · refine Eq.trans ?_ (h.2.2.2.2.1 q hq)
    show upd (u.2.1 58) i v q = u.2.1 58 q
    exact w_updN (by omega)
theorem gu_54 {lw : Nat} {μ u : km_S} {v : Int32} (h : gu_ lw μ u) : gu_ lw μ (km_sa u 54 lw v) := by
  refine ⟨h.1, fun g a b c d => ?_, h.2.2.1, h.2.2.2.1, h.2.2.2.2.1, fun q hq => ?_, h.2.2.2.2.2.2⟩
  · refine Eq.trans ?_ (h.2.1 g a b c d)
    show (if g = 54 then _ else u.2.1 g) = u.2.1 g
    exact if_neg a
  · refine Eq.trans ?_ (h.2.2.2.2.2.1 q hq)
    show upd (u.2.1 54) lw v q = u.2.1 54 q
    exact w_updN hq
theorem m0_gt {f : Nat → Int32} {n lw : Nat} {μ u : km_S} (C : m0_ f n lw μ) (h : gu_ lw μ u) : m0_ f n lw u := by
  obtain ⟨⟨c1, c2, c3⟩, c4, c5, c6⟩ := C
  refine ⟨⟨?_, c2, fun i hi => ?_⟩, c4, ?_, c6⟩
  · rw [h.1 61 (by decide) (by decide) (by decide) (by decide) (by decide) (by decide) (by decide) (by decide)]; exact c1
  · rw [h.2.1 52 (by decide) (by decide) (by decide) (by decide)]; exact c3 i hi
  · rw [h.1 5 (by decide) (by decide) (by decide) (by decide) (by decide) (by decide) (by decide) (by decide)]; exact c5
def mR_ (lw : Nat) (RS : List (Bool × List Int32)) (u : km_S) : Prop := ∀ i r, RS[i]? = some r → km_a u 58 (12 * lw + i) = (if r.1 = true then 1 else 0) ∧ (km_a u 55 (13 * lw + i)).toInt = ((enc (p_ops (RS.take i))).length : Int)
theorem mR_gf {lw : Nat} {RS : List (Bool × List Int32)} {u v : km_S} (h : mR_ lw RS u) (k : gq_ lw u v) : mR_ lw RS v := by
  intro i r hr
  rw [k.2.1 58 (by decide), k.2.1 55 (by decide)]
  exact h i r hr
theorem mR_new {lw : Nat} {RS : List (Bool × List Int32)} {u : km_S} {a : Bool} {cs : List Int32} {b c : Int32} (h : mR_ lw RS u) (hb : b = (if a = true then 1 else 0)) (hc : c.toInt = ((enc (p_ops RS)).length : Int)) : mR_ lw (RS ++ [(a, cs)]) (km_sa (km_sa u 58 (12 * lw + RS.length) b) 55 (13 * lw + RS.length) c) := by
  intro i r hr
  have hlt : i < RS.length + 1 := by
    have := (List.getElem?_eq_some_iff.1 hr).1
    rw [List.length_append] at this
    exact this
  show upd (u.2.1 58) (12 * lw + RS.length) b (12 * lw + i) = _ ∧ (upd (u.2.1 55) (13 * lw + RS.length) c (13 * lw + i)).toInt = _
  by_cases e : i = RS.length
  · subst e
    rw [List.getElem?_append_right (Nat.le_refl _), Nat.sub_self] at hr
    have : r = (a, cs) := (Option.some.inj hr).symm
    rw [this, w_updS, w_updS, List.take_append_of_le_length (Nat.le_refl _), List.take_length]
    exact ⟨hb, hc⟩
  · have hi : i < RS.length := by omega
    rw [List.getElem?_append_left hi] at hr
    rw [w_updN (by omega), w_updN (by omega), List.take_append_of_le_length (by omega)]
    exact h i r hr
def mz_ (lw : Nat) (μ : km_S) (RS : List (Bool × List Int32)) (r : pt_T) (u : km_S) : Prop := match r with
  | .inl p => gu_ lw μ u ∧ ¬ km_i u 66 = 0 ∧ (km_i u 67).toInt = (p : Int)
  | .inr rs => gu_ lw μ u ∧ km_i u 66 = 0 ∧ mD_ lw (enc (p_ops (RS ++ rs))) u ∧ mR_ lw (RS ++ rs) u ∧ (km_a u 55 (13 * lw + (RS ++ rs).length)).toInt = ((enc (p_ops (RS ++ rs))).length : Int) ∧ (km_a u 54 lw).toInt = ((RS ++ rs).length : Int)
section
variable {f : Nat → Int32} {n lw : Nat} {μ : km_S}
theorem ve_147 {i : Int32} {q : Nat} {u : km_S} {Q : km_S → Prop} (C : m0_ f n lw μ) (h : gu_ lw μ u) (hi : i.toInt = (q : Int)) (hq : q ≤ 13) (kk : Q (km_sa (km_sa u 55 (13 * lw + q) (km_i u 59)) 54 lw i)) : vX12_readLaw_147 Q i u := by
  have z : (13 : Int32).toInt = 13 := by decide
  have h5 := (m0_gt C h).2.2.1
  have l6 := C.2.2.2
  have e1 : (13 * km_i u 5).toInt = 13 * (lw : Int) := by rw [ki_mul (by rw [z, h5]; omega) (by rw [z, h5]; omega), z, h5]
  have e2 : (13 * km_i u 5 + i).toNatClampNeg = 13 * lw + q := by
    rw [ki_nat, ki_add (by rw [e1, hi]; omega) (by rw [e1, hi]; omega), e1, hi]
    omega
  have e3 : (km_i u 5).toNatClampNeg = lw := by rw [ki_nat, h5]; omega
  unfold vX12_readLaw_147
  rw [e2]
  rintro _ μ6 rfl _ μ8 rfl
  have e4 : (km_i (km_sa u 55 (13 * lw + q) (km_i u 59)) 5).toNatClampNeg = lw := e3
  rw [e4]
  exact kk
theorem ve_6F {i : Int32} {q p : Nat} {u : km_S} {Q : km_S → Prop} {RS : List (Bool × List Int32)} (C : m0_ f n lw μ) (h : gu_ lw μ u) (hb : ¬ km_i u 66 = 0) (hp : (km_i u 67).toInt = (p : Int)) (hi : i.toInt = (q : Int)) (hq : q ≤ 13) (kk : ∀ u', mz_ lw μ RS (.inl p) u' → Q u') : ∀ j, vX12_readLaw_6 (vX12_readLaw_147 Q) Q j i u := by
  intro j
  cases j with
  | zero => exact trivial
  | succ j =>
    unfold vX12_readLaw_6
    exact ⟨fun _ => ve_147 C h hi hq (kk _ ⟨gu_54 (gu_55 h (by omega)), hb, hp⟩), fun x => absurd x hb⟩
theorem ve_text6 {Q : km_S → Prop} (C : m0_ f n lw μ) : ∀ (j m : Nat) (i : Int32) (q : Nat) (RS : List (Bool × List Int32)) (t : tk_T) (u : km_S), i.toInt = (q : Int) → m + q = 13 → 1 ≤ m → RS.length = q → gu_ lw μ u → mR_ lw RS u → mq_ f n lw u 0 (p_ops RS) t u → (∀ u', mz_ lw μ RS (p_text f n m q t) u' → Q u') → vX12_readLaw_6 (vX12_readLaw_147 Q) Q j i u := by
  have z12 : (12 : Int32).toInt = 12 := by decide
  have z13 : (13 : Int32).toInt = 13 := by decide
  intro j
  induction j with
  | zero => intro _ _ _ _ _ _ _ _ _ _ _ _ _ _; exact trivial
  | succ j ih =>
    intro m i q RS t u hi hm h1 hq hg hR h kk
    have l6 := C.2.2.2
    have Cu := m0_gt C hg
    have h5 := Cu.2.2.1
    have hn5 := C.1.2.1
    obtain ⟨m, rfl⟩ : ∃ x, m = x + 1 := ⟨m - 1, by omega⟩
    unfold vX12_readLaw_6
    refine ⟨fun c => absurd h.2.1 c, fun _ => ⟨fun d => ?_, fun d => ?_⟩⟩
    · rw [h.2.2.1.2.2.2.1] at d
      have d1 := t_rk0.1 d
      rw [show p_text f n (m + 1) q t = .inr [] from if_pos d1] at kk
      refine ve_147 C hg hi (by omega) (kk _ ?_)
      have hD := h.2.2.2.2.1
      show gu_ lw μ _ ∧ _
      rw [List.append_nil]
      refine ⟨gu_54 (gu_55 hg (by omega)), h.2.1, hD, fun i r hr => ?_, ?_, ?_⟩
      · have hlt := (List.getElem?_eq_some_iff.1 hr).1
        show u.2.1 58 (12 * lw + i) = _ ∧ (upd (u.2.1 55) (13 * lw + q) (km_i u 59) (13 * lw + i)).toInt = _
        rw [w_updN (by omega)]
        exact hR i r hr
      · show (upd (u.2.1 55) (13 * lw + q) (km_i u 59) (13 * lw + RS.length)).toInt = _
        rw [hq, w_updS]
        exact hD.1
      · show (upd (u.2.1 54) lw i lw).toInt = _
        rw [w_updS, hi, hq]
    · rw [h.2.2.1.2.2.2.1] at d
      have d1 : ¬ t.1 = 0 := fun x => d (t_rk0.2 x)
      have nx : ∀ v : Int32, v = i + 1 → v.toInt = ((q + 1 : Nat) : Int) := by
        intro v e
        rw [e, ki_add (by rw [hi, ki_z1]; omega) (by rw [hi, ki_z1]; omega), hi, ki_z1]
        omega
      have bad : ∀ (v : Int32) (l2 : Int32), ¬ v = 0 → p_rule f n q t = .inl t.2.1 → vX12_wrong v u (fun μ4 => vX12_readLaw_59 (vX12_readLaw_6 (vX12_readLaw_147 Q) Q j) Q i l2 μ4) := by
        intro v l2 hv er
        have e2 : p_text f n (m + 1) q t = .inl t.2.1 := by
          show (if t.1 = 0 then (.inr [] : pt_T) else _) = _
          rw [if_neg d1, er]
        rw [e2] at kk
        refine ve_wrong h hv (fun u' h' => ?_)
        unfold vX12_readLaw_59
        exact ⟨fun x => absurd x h'.2.1, fun _ => kk u' ⟨gu_gf hg h'.1, h'.2.1, h'.2.2⟩⟩
      have go : ∀ l2 : Int32, (t_wd f t 8 = true ∨ t_wd f t 7 = true) → vp_nar .boolean l2 = (if t_wd f t 7 = true then 1 else 0) → vX12_readLaw_48 (vX12_readLaw_59 (vX12_readLaw_6 (vX12_readLaw_147 Q) Q j) Q) Q i l2 u := by
        intro l2 hw h2
        unfold vX12_readLaw_48
        refine ⟨fun c => ?_, fun c => ?_⟩
        · have nq : ¬ q = 12 := fun e => c (ki_eq.2 (by rw [hi, z12]; omega))
          have er : p_rule f n q t = p_bind (p_expr f n 8 (p_adv f n t)) (p_sg f n 59) := (if_pos hw).trans (if_neg nq)
          have e1 : (12 * km_i u 5).toInt = 12 * (lw : Int) := by rw [ki_mul (by rw [z12, h5]; omega) (by rw [z12, h5]; omega), z12, h5]
          have e2 : (12 * km_i u 5 + i).toNatClampNeg = 12 * lw + q := by
            rw [ki_nat, ki_add (by rw [e1, hi]; omega) (by rw [e1, hi]; omega), e1, hi]
            omega
          have e3 : (13 * km_i u 5).toInt = 13 * (lw : Int) := by rw [ki_mul (by rw [z13, h5]; omega) (by rw [z13, h5]; omega), z13, h5]
          have e4 : (13 * km_i u 5 + i).toNatClampNeg = 13 * lw + q := by
            rw [ki_nat, ki_add (by rw [e3, hi]; omega) (by rw [e3, hi]; omega), e3, hi]
            omega
          unfold vX12_readLaw_59
          rw [e2]
          refine ⟨fun _ _ => ?_, fun x => absurd h.2.1 x⟩
          rintro μ11 rfl
          have e5 : (13 * km_i (km_sa u 58 (12 * lw + q) (vp_nar .boolean l2)) 5 + i).toNatClampNeg = 13 * lw + q := e4
          rw [e5]
          rintro _ μ13 rfl v14 e14
          have hv14 := nx v14 e14
          have g1 : gu_ lw μ (km_sa (km_sa u 58 (12 * lw + q) (vp_nar .boolean l2)) 55 (13 * lw + q) (km_i u 59)) := gu_55 (gu_58 hg (by omega)) (by omega)
          have hR1 : ∀ cs, mR_ lw (RS ++ [(t_wd f t 7, cs)]) (km_sa (km_sa u 58 (12 * lw + q) (vp_nar .boolean l2)) 55 (13 * lw + q) (km_i u 59)) := by
            intro cs
            have := mR_new (a := t_wd f t 7) (cs := cs) (b := vp_nar .boolean l2) (c := km_i u 59) hR h2 h.2.2.2.2.1.1
            rw [hq] at this
            exact this
          have hq1 : mq_ f n lw (km_sa (km_sa u 58 (12 * lw + q) (vp_nar .boolean l2)) 55 (13 * lw + q) (km_i u 59)) 0 (p_ops RS) t (km_sa (km_sa u 58 (12 * lw + q) (vp_nar .boolean l2)) 55 (13 * lw + q) (km_i u 59)) := ⟨gq_refl, h.2.1, h.2.2.1, h.2.2.2.1, h.2.2.2.2.1, h.2.2.2.2.2⟩
          show vX12_step (km_sa (km_sa u 58 (12 * lw + q) (vp_nar .boolean l2)) 55 (13 * lw + q) (km_i u 59)) _
          generalize km_sa (km_sa u 58 (12 * lw + q) (vp_nar .boolean l2)) 55 (13 * lw + q) (km_i u 59) = w at *
          have Cw := m0_gt C g1
          refine ve_adv1 Cw hq1 d1 (fun u1 k1 => ?_)
          refine ve_expr Cw 8 10 0 (by decide) (Nat.le_refl _) 1 (p_ops RS) (p_adv f n t) u1 _ (Nat.le_refl 1) k1 (fun u2 k2 => ?_)
          have flt : ∀ (p : Nat) (u' : km_S), p_text f n (m + 1) q t = .inl p → mF_ lw w p u' → vX12_readLaw_133 (vX12_readLaw_6 (vX12_readLaw_147 Q) Q j) Q v14 u' := by
            intro p u' e h'
            rw [e] at kk
            unfold vX12_readLaw_133 vX12_readLaw_144
            exact ⟨fun _ => ve_6F C (gu_gf g1 h'.1) h'.2.1 h'.2.2 hv14 (by omega) kk j, fun x => absurd x h'.2.1⟩
          have et : p_text f n (m + 1) q t = match p_rule f n q t with
              | .inl p => .inl p
              | .inr (t2, cs) => match p_text f n m (q + 1) t2 with
                | .inl p => .inl p
                | .inr rs => .inr ((t_wd f t 7, cs) :: rs) := by
            show (if t.1 = 0 then (.inr [] : pt_T) else _) = _
            rw [if_neg d1]
            rfl
          revert k2 er
          cases p_expr f n 8 (p_adv f n t) with
          | inl p =>
            intro er k2
            have e : p_text f n (m + 1) q t = .inl p := by rw [et, er]; rfl
            exact ⟨fun _ => flt p u2 e k2, fun x => absurd x k2.2.1⟩
          | inr y =>
            obtain ⟨t2, cs⟩ := y
            intro er k2
            have k2 : mq_ f n lw w 1 (p_ops RS ++ cs) t2 u2 := k2
            refine ⟨fun x => absurd k2.2.1 x, fun _ => ?_⟩
            refine vm_isSign k2.2.2.1 (by decide) (fun e2 => ⟨fun _ => ?_, fun x => absurd x (by decide)⟩) (fun e2 => ⟨fun x => absurd rfl x, fun _ => ?_⟩)
            · have er2 : p_rule f n q t = .inr (p_adv f n t2, cs) := by
                rw [er, p_bind_r (show p_sg f n 59 t2 = .inr (p_adv f n t2, []) from if_pos e2), List.append_nil]
              unfold vX12_readLaw_133 vX12_readLaw_144
              refine ⟨fun x => absurd k2.2.1 x, fun _ => ve_adv1 Cw k2 (by rw [e2]; decide) (fun u3 k3 => ?_)⟩
              have eo : p_ops (RS ++ [(t_wd f t 7, cs)]) = p_ops RS ++ cs := by rw [p_ops_app, p_ops_one]
              refine ih m v14 (q + 1) (RS ++ [(t_wd f t 7, cs)]) (p_adv f n t2) u3 hv14 (by omega) (by omega) (by rw [List.length_append, hq]; rfl) (gu_gf g1 k3.1) (mR_gf (hR1 cs) k3.1) ?_ (fun u' h' => kk u' ?_)
              · rw [eo]
                exact ⟨gq_refl, k3.2.1, k3.2.2.1, k3.2.2.2.1, k3.2.2.2.2.1, by have := k3.2.2.2.2.2; omega⟩
              · rw [et, er2]
                show mz_ lw μ RS (match p_text f n m (q + 1) (p_adv f n t2) with
                  | .inl p => .inl p
                  | .inr rs => .inr ((t_wd f t 7, cs) :: rs)) u'
                revert h'
                cases p_text f n m (q + 1) (p_adv f n t2) with
                | inl p => intro h'; exact h'
                | inr rs =>
                  intro h'
                  have h' : gu_ lw μ u' ∧ km_i u' 66 = 0 ∧ mD_ lw (enc (p_ops ((RS ++ [(t_wd f t 7, cs)]) ++ rs))) u' ∧ mR_ lw ((RS ++ [(t_wd f t 7, cs)]) ++ rs) u' ∧ (km_a u' 55 (13 * lw + ((RS ++ [(t_wd f t 7, cs)]) ++ rs).length)).toInt = ((enc (p_ops ((RS ++ [(t_wd f t 7, cs)]) ++ rs))).length : Int) ∧ (km_a u' 54 lw).toInt = (((RS ++ [(t_wd f t 7, cs)]) ++ rs).length : Int) := h'
                  rw [List.append_assoc] at h'
                  exact h'
            · have er2 : p_rule f n q t = .inl t2.2.1 := by rw [er, p_bind_l (show p_sg f n 59 t2 = .inl t2.2.1 from if_neg e2)]
              have e : p_text f n (m + 1) q t = .inl t2.2.1 := by rw [et, er2]
              exact ve_wrong k2 (by decide) (fun u3 k3 => flt t2.2.1 u3 e k3)
        · have nq : q = 12 := by
            have := congrArg Int32.toInt c
            rw [hi, z12] at this
            omega
          exact bad 2 l2 (by decide) ((if_pos hw).trans (if_pos nq))
      refine ve_isWord Cu h (fun w => ⟨fun _ => go 1 (.inr w) (by rw [if_pos w]; rfl), fun x => absurd x (by decide)⟩) (fun w => ⟨fun x => absurd rfl x, fun _ => ?_⟩)
      refine ve_isWord Cu h (fun w2 => ⟨fun _ => go 0 (.inl w2) (by rw [if_neg (b_no w)]; rfl), fun x => absurd x (by decide)⟩) (fun w2 => ⟨fun x => absurd rfl x, fun _ => ?_⟩)
      exact bad 1 0 (by decide) (if_neg (fun x => x.elim (b_no w2) (b_no w)))
theorem ve_text {Q : km_S → Prop} (C : m0_ f n lw μ) (h60 : km_i μ 60 = 0) (h66 : km_i μ 66 = 0) (h59 : km_i μ 59 = 0) (kk : ∀ u', mz_ lw μ [] (p_text f n 13 0 (t_tok f n 0)) u' → Q u') : vX12_readLaw μ Q := by
  unfold vX12_readLaw
  refine vm_step (p := 0) C.2.1 C.1 (by rw [h60]; decide) (Nat.zero_le n) (fun u' c _ T' => ?_)
  intro j
  have g : gq_ lw μ u' := gq_mk gq_refl c
  refine ve_text6 C j 13 0 0 [] (t_tok f n 0) u' (by decide) rfl (by decide) rfl (gu_gf gu_refl g) (fun i r hr => absurd hr (by simp)) ⟨gq_refl, ?_, T', ⟨0, Nat.zero_le n, rfl⟩, ⟨?_, fun i hi => absurd hi (Nat.not_lt_zero i)⟩, Nat.zero_le _⟩ kk
  · rw [c.1 66 (by decide) (by decide) (by decide) (by decide) (by decide)]
    exact h66
  · rw [c.1 59 (by decide) (by decide) (by decide) (by decide) (by decide), h59]
    rfl
end
end
section
/-! what a law says, told once for both -/
def e_join (c a b : Int32) : Int32 := if c = -8 then a + b else if c = -9 then a - b else if c = -10 then a * b else if c = -11 then (if b = 0 then 0 else a / b) else if c = -12 then (if b ≤ a then 0 else 1) else if c = -13 then (if a = b then 1 else 0) else if c = -14 then (if a = 0 then 0 else if b = 0 then 0 else 1) else (if a = 0 then (if b = 0 then 0 else 1) else 1)
abbrev e_T : Type := Nat × (Nat → Int32)
def e_st (nm : Nat → Int32) (s : e_T) (c : Int32) : e_T := if -8 < c.toInt then (s.1 + 1, upd s.2 s.1 (if 0 ≤ c.toInt then c else nm (-1 - c).toNatClampNeg)) else if c.toInt = -16 then (s.1, upd s.2 (s.1 - 1) (if s.2 (s.1 - 1) = 0 then 1 else 0)) else (s.1 - 1, upd s.2 (s.1 - 2) (e_join c (s.2 (s.1 - 2)) (s.2 (s.1 - 1))))
def e_run (nm : Nat → Int32) (L : List Int32) (s : e_T) : e_T := L.foldl (e_st nm) s
/-- the row never asks for what isn't there, nor goes above M; from d to e -/
def ed_ (M : Nat) : List Int32 → Nat → Nat → Prop
  | [], d, e => d = e
  | c :: L, d, e => if -8 < c.toInt then d < M ∧ ed_ M L (d + 1) e else if c.toInt = -16 then 1 ≤ d ∧ ed_ M L d e else -16 < c.toInt ∧ 2 ≤ d ∧ ed_ M L (d - 1) e
theorem ed_app {M : Nat} : ∀ (L L' : List Int32) (d e g : Nat), ed_ M L d e → ed_ M L' e g → ed_ M (L ++ L') d g := by
  intro L
  induction L with
  | nil => intro L' d e g h k; have h : d = e := h; rw [h]; exact k
  | cons c L ih =>
    intro L' d e g h k
    show ed_ M (c :: (L ++ L')) d g
    unfold ed_ at h ⊢
    split at h
    · next a => rw [if_pos a]; exact ⟨h.1, ih L' _ e g h.2 k⟩
    · next a =>
      rw [if_neg a]
      split at h
      · next b => rw [if_pos b]; exact ⟨h.1, ih L' _ e g h.2 k⟩
      · next b => rw [if_neg b]; exact ⟨h.1, h.2.1, ih L' _ e g h.2.2 k⟩
theorem ed_psh {M d : Nat} {c : Int32} (h : -8 < c.toInt) (k : d < M) : ed_ M [c] d (d + 1) := by
  unfold ed_
  rw [if_pos h]
  exact ⟨k, rfl⟩
theorem ed_bin {M d : Nat} {c : Int32} (h : ¬ -8 < c.toInt) (h2 : ¬ c.toInt = -16) (h3 : -16 < c.toInt) (k : 1 ≤ d) : ed_ M [c] (d + 1) d := by
  unfold ed_
  rw [if_neg h, if_neg h2]
  exact ⟨h3, by omega, rfl⟩
theorem ed_not {M d : Nat} {c : Int32} (h2 : c.toInt = -16) (k : 1 ≤ d) : ed_ M [c] d d := by
  unfold ed_
  rw [if_neg (by omega), if_pos h2]
  exact ⟨k, rfl⟩
/-- a piece of the grammar puts one more on the stack, and needs B of room -/
def pe_ (f : Nat → Int32) (n M B : Nat) (P : tk_T → pr_T) : Prop := ∀ t t' cs, tt_ f n t → P t = .inr (t', cs) → tt_ f n t' ∧ ∀ d, d + B ≤ M → ed_ M cs d (d + 1)
theorem p_bind_inv {r : pr_T} {k : tk_T → pr_T} {t' : tk_T} {cs : List Int32} (h : p_bind r k = .inr (t', cs)) : ∃ t1 c1 c2, r = .inr (t1, c1) ∧ k t1 = .inr (t', c2) ∧ cs = c1 ++ c2 := by
  cases r with
  | inl p => exact absurd h (by unfold p_bind; simp)
  | inr q =>
    obtain ⟨t1, c1⟩ := q
    cases e : k t1 with
    | inl p => rw [p_bind_l e] at h; exact absurd h (by simp)
    | inr q =>
      obtain ⟨t2, c2⟩ := q
      rw [p_bind_r e] at h
      have h := Sum.inr.inj h
      have h1 : t2 = t' := congrArg Prod.fst h
      have h2 : c1 ++ c2 = cs := congrArg Prod.snd h
      exact ⟨t1, c1, c2, rfl, by rw [← h1]; exact e, h2.symm⟩
theorem p_inr {t t' : tk_T} {cs ds : List Int32} (h : (.inr (t, cs) : pr_T) = .inr (t', ds)) : t = t' ∧ cs = ds := ⟨congrArg Prod.fst (Sum.inr.inj h), congrArg Prod.snd (Sum.inr.inj h)⟩
section
variable {f : Nat → Int32} {n M : Nat}
theorem pe_sg {b : Int32} {t t' : tk_T} {cs : List Int32} (ht : tt_ f n t) (h : p_sg f n b t = .inr (t', cs)) : tt_ f n t' ∧ cs = [] := by
  unfold p_sg at h
  split at h
  · obtain ⟨a, b⟩ := p_inr h
    rw [← a]
    exact ⟨(tt_adv ht).1, b.symm⟩
  · exact absurd h (by simp)
theorem p_nm_lo {t : tk_T} : -8 < (p_nm f t).toInt := by
  unfold p_nm
  repeat' split
  all_goals decide
theorem pe_part {B : Nat} {R : tk_T → pr_T} (h1 : 1 ≤ B) (hR : pe_ f n M B R) : pe_ f n M B (p_part f n R) := by
  intro t t' cs ht h
  unfold p_part at h
  split at h
  · next a =>
    split at h
    · exact absurd h (by simp)
    · next b =>
      obtain ⟨e1, e2⟩ := p_inr h
      rw [← e1, ← e2]
      have nn := t_num_lo (f := f) (t.2.2 - t.2.1) t.2.1 0 0 (by omega) (by decide) (by decide) (fun i a' b' => tt_dig ht a i a' (by omega))
      exact ⟨(tt_adv ht).1, fun d hd => ed_psh (by omega) (by omega)⟩
  · split at h
    · split at h
      · exact absurd h (by simp)
      · obtain ⟨e1, e2⟩ := p_inr h
        rw [← e1, ← e2]
        exact ⟨(tt_adv ht).1, fun d hd => ed_psh p_nm_lo (by omega)⟩
    · split at h
      · obtain ⟨t1, c1, c2, a1, a2, a3⟩ := p_bind_inv h
        obtain ⟨b1, b2⟩ := hR _ t1 c1 (tt_adv ht).1 a1
        obtain ⟨b3, b4⟩ := pe_sg b1 a2
        rw [a3, b4, List.append_nil]
        exact ⟨b3, b2⟩
      · exact absurd h (by simp)
/-- an operator after its second -/
theorem pe_put {B : Nat} {P : tk_T → pr_T} {v : Int32} {t t' : tk_T} {cs : List Int32} (hP : pe_ f n M B P) (h1 : ¬ -8 < v.toInt) (h2 : ¬ v.toInt = -16) (h3 : -16 < v.toInt) (ht : tt_ f n t) (h : p_bind (P t) (p_put v) = .inr (t', cs)) : tt_ f n t' ∧ ∀ d, 1 ≤ d → d + B ≤ M → ed_ M cs d d := by
  obtain ⟨t1, c1, c2, a1, a2, a3⟩ := p_bind_inv h
  obtain ⟨b1, b2⟩ := hP t t1 c1 ht a1
  obtain ⟨e1, e2⟩ := p_inr a2
  rw [← e1, a3, ← e2]
  exact ⟨b1, fun d hd hB => ed_app c1 [v] d (d + 1) d (b2 d hB) (ed_bin h1 h2 h3 hd)⟩
theorem pe_loop {B : Nat} {P : tk_T → pr_T} {op : tk_T → Int32} (hP : pe_ f n M B P) (ho : ∀ t, ¬ op t = 0 → ¬ -8 < (op t).toInt ∧ ¬ (op t).toInt = -16 ∧ -16 < (op t).toInt) : ∀ (m : Nat) (t t' : tk_T) (cs : List Int32), tt_ f n t → p_loop f n P op m t = .inr (t', cs) → tt_ f n t' ∧ ∀ d, 1 ≤ d → d + B ≤ M → ed_ M cs d d := by
  intro m
  induction m with
  | zero =>
    intro t t' cs ht h
    obtain ⟨e1, e2⟩ := p_inr h
    rw [← e1, ← e2]
    exact ⟨ht, fun d _ _ => rfl⟩
  | succ m ih =>
    intro t t' cs ht h
    have h : (if op t = 0 then .inr (t, []) else p_bind (p_bind (P (p_adv f n t)) (p_put (op t))) (p_loop f n P op m)) = (.inr (t', cs) : pr_T) := h
    split at h
    · obtain ⟨e1, e2⟩ := p_inr h
      rw [← e1, ← e2]
      exact ⟨ht, fun d _ _ => rfl⟩
    · next c =>
      obtain ⟨t1, c1, c2, a1, a2, a3⟩ := p_bind_inv h
      obtain ⟨o1, o2, o3⟩ := ho t c
      obtain ⟨b1, b2⟩ := pe_put hP o1 o2 o3 (tt_adv ht).1 a1
      obtain ⟨b3, b4⟩ := ih t1 t' c2 b1 a2
      rw [a3]
      exact ⟨b3, fun d hd hB => ed_app c1 c2 d d d (b2 d hd hB) (b4 d hd hB)⟩
theorem pe_seq {B : Nat} {P : tk_T → pr_T} {op : tk_T → Int32} {m : Nat} (hP : pe_ f n M B P) (ho : ∀ t, ¬ op t = 0 → ¬ -8 < (op t).toInt ∧ ¬ (op t).toInt = -16 ∧ -16 < (op t).toInt) : pe_ f n M (B + 1) (fun t => p_bind (P t) (p_loop f n P op m)) := by
  intro t t' cs ht h
  obtain ⟨t1, c1, c2, a1, a2, a3⟩ := p_bind_inv h
  obtain ⟨b1, b2⟩ := hP t t1 c1 ht a1
  obtain ⟨b3, b4⟩ := pe_loop hP ho m t1 t' c2 b1 a2
  rw [a3]
  exact ⟨b3, fun d hd => ed_app c1 c2 d (d + 1) (d + 1) (b2 d (by omega)) (b4 (d + 1) (by omega) (by omega))⟩
theorem pe_opT (t : tk_T) : ¬ p_opT t = 0 → ¬ -8 < (p_opT t).toInt ∧ ¬ (p_opT t).toInt = -16 ∧ -16 < (p_opT t).toInt := by
  unfold p_opT
  repeat' split
  all_goals (intro x; first | exact absurd rfl x | decide)
theorem pe_opS (t : tk_T) : ¬ p_opS t = 0 → ¬ -8 < (p_opS t).toInt ∧ ¬ (p_opS t).toInt = -16 ∧ -16 < (p_opS t).toInt := by
  unfold p_opS
  repeat' split
  all_goals (intro x; first | exact absurd rfl x | decide)
theorem pe_opC (t : tk_T) : ¬ p_opC t = 0 → ¬ -8 < (p_opC t).toInt ∧ ¬ (p_opC t).toInt = -16 ∧ -16 < (p_opC t).toInt := by
  unfold p_opC
  repeat' split
  all_goals (intro x; first | exact absurd rfl x | decide)
theorem pe_opE (t : tk_T) : ¬ p_opE f t = 0 → ¬ -8 < (p_opE f t).toInt ∧ ¬ (p_opE f t).toInt = -16 ∧ -16 < (p_opE f t).toInt := by
  unfold p_opE
  repeat' split
  all_goals (intro x; first | exact absurd rfl x | decide)
theorem pe_cmp {B : Nat} {R : tk_T → pr_T} (h1 : 1 ≤ B) (hR : pe_ f n M B R) : pe_ f n M (B + 3) (p_cmp f n R) := by
  have hs : pe_ f n M (B + 1 + 1) (p_sum f n R) := pe_seq (pe_seq (pe_part h1 hR) pe_opT) pe_opS
  intro t t' cs ht h
  obtain ⟨t1, c1, c2, a1, a2, a3⟩ := p_bind_inv h
  obtain ⟨b1, b2⟩ := hs t t1 c1 ht a1
  unfold p_cmp2 at a2
  split at a2
  · obtain ⟨e1, e2⟩ := p_inr a2
    rw [a3, ← e1, ← e2, List.append_nil]
    exact ⟨b1, fun d hd => b2 d (by omega)⟩
  · next c =>
    obtain ⟨o1, o2, o3⟩ := pe_opC t1 c
    obtain ⟨b3, b4⟩ := pe_put hs o1 o2 o3 (tt_adv b1).1 a2
    rw [a3]
    exact ⟨b3, fun d hd => ed_app c1 c2 d (d + 1) (d + 1) (b2 d (by omega)) (b4 (d + 1) (by omega) (by omega))⟩
theorem pe_test {B : Nat} {R : tk_T → pr_T} (h1 : 1 ≤ B) (hR : pe_ f n M B R) : pe_ f n M (B + 3) (p_test f n R) := by
  intro t t' cs ht h
  unfold p_test at h
  split at h
  · obtain ⟨t1, c1, c2, a1, a2, a3⟩ := p_bind_inv h
    obtain ⟨b1, b2⟩ := pe_cmp h1 hR _ t1 c1 (tt_adv ht).1 a1
    obtain ⟨e1, e2⟩ := p_inr a2
    rw [a3, ← e1, ← e2]
    exact ⟨b1, fun d hd => ed_app c1 _ d (d + 1) (d + 1) (b2 d hd) (ed_not (by decide) (by omega))⟩
  · exact pe_cmp h1 hR t t' cs ht h
theorem pe_expr : ∀ d : Nat, pe_ f n M (4 * d + 1) (p_expr f n d) := by
  intro d
  induction d with
  | zero => intro t t' cs ht h; exact absurd h (by show ¬ (.inl t.2.1 : pr_T) = _; simp)
  | succ d ih => exact pe_seq (pe_test (by omega) ih) pe_opE
theorem pe_rule {i : Nat} {t t' : tk_T} {cs : List Int32} (ht : tt_ f n t) (h : p_rule f n i t = .inr (t', cs)) : tt_ f n t' ∧ ed_ 33 cs 0 1 := by
  unfold p_rule at h
  split at h
  · split at h
    · exact absurd h (by simp)
    · obtain ⟨t1, c1, c2, a1, a2, a3⟩ := p_bind_inv h
      obtain ⟨b1, b2⟩ := pe_expr (f := f) (n := n) (M := 33) 8 _ t1 c1 (tt_adv ht).1 a1
      obtain ⟨b3, b4⟩ := pe_sg b1 a2
      rw [a3, b4, List.append_nil]
      exact ⟨b3, b2 0 (by omega)⟩
  · exact absurd h (by simp)
theorem pe_text : ∀ (m i : Nat) (t : tk_T) (rs : List (Bool × List Int32)), tt_ f n t → p_text f n m i t = .inr rs → ∀ r ∈ rs, ed_ 33 r.2 0 1 := by
  intro m
  induction m with
  | zero =>
    intro i t rs _ h
    have h : ([] : List (Bool × List Int32)) = rs := Sum.inr.inj h
    rw [← h]
    intro r hr
    exact absurd hr (List.not_mem_nil)
  | succ m ih =>
    intro i t rs ht h
    unfold p_text at h
    split at h
    · have h := Sum.inr.inj h
      rw [← h]
      intro r hr
      exact absurd hr (List.not_mem_nil)
    · cases e : p_rule f n i t with
      | inl p => rw [e] at h; exact absurd h (by simp)
      | inr q =>
        obtain ⟨t2, cs⟩ := q
        rw [e] at h
        obtain ⟨b1, b2⟩ := pe_rule ht e
        cases e2 : p_text f n m (i + 1) t2 with
        | inl p =>
          have h : (match p_text f n m (i + 1) t2 with
            | .inl p => (.inl p : pt_T)
            | .inr rs => .inr ((t_wd f t 7, cs) :: rs)) = .inr rs := h
          rw [e2] at h
          exact absurd h (by simp)
        | inr rs2 =>
          have h : (match p_text f n m (i + 1) t2 with
            | .inl p => (.inl p : pt_T)
            | .inr rs => .inr ((t_wd f t 7, cs) :: rs)) = .inr rs := h
          rw [e2] at h
          have h : (t_wd f t 7, cs) :: rs2 = rs := Sum.inr.inj h
          rw [← h]
          intro r hr
          rcases List.mem_cons.1 hr with q | q
          · rw [q]; exact b2
          · exact ih (i + 1) t2 rs2 b1 e2 r q
end
/-! values -/
theorem e_div (a : Int32) : a / (-1) = -a := by
  have z : (-1 : Int32).toInt = -1 := by decide
  have e1 : (a / (-1)).toInt = (a.toInt.tdiv (-1 : Int32).toInt).bmod (2 ^ 32) := Int32.toInt_div a (-1)
  have e2 : (-a).toInt = (-a.toInt).bmod (2 ^ 32) := Int32.toInt_neg a
  rw [ki_eq, e1, z, e2, Int.tdiv_neg, Int.tdiv_one]
/-- below its height two stacks are the same -/
def e_eq (s s' : e_T) : Prop := s.1 = s'.1 ∧ ∀ i, i < s.1 → s.2 i = s'.2 i
theorem e_run_ext {nm : Nat → Int32} {M : Nat} : ∀ (L : List Int32) (s s' : e_T) (e : Nat), ed_ M L s.1 e → e_eq s s' → e_eq (e_run nm L s) (e_run nm L s') ∧ (e_run nm L s).1 = e := by
  intro L
  induction L with
  | nil => intro s s' e h k; exact ⟨k, h⟩
  | cons c L ih =>
    intro s s' e h k
    obtain ⟨k1, k2⟩ := k
    show e_eq (e_run nm L (e_st nm s c)) (e_run nm L (e_st nm s' c)) ∧ (e_run nm L (e_st nm s c)).1 = e
    unfold ed_ at h
    unfold e_st
    split at h
    · next a =>
      rw [if_pos a, if_pos a]
      refine ih _ _ e h.2 ⟨by show s.1 + 1 = s'.1 + 1; rw [k1], fun i hi => ?_⟩
      have hi : i < s.1 + 1 := hi
      show upd s.2 s.1 _ i = upd s'.2 s'.1 _ i
      rw [← k1]
      by_cases q : i = s.1
      · rw [q, w_updS, w_updS]
      · rw [w_updN q, w_updN q]; exact k2 i (by omega)
    · next a =>
      rw [if_neg a, if_neg a]
      split at h
      · next b =>
        rw [if_pos b, if_pos b]
        refine ih _ _ e h.2 ⟨k1, fun i hi => ?_⟩
        have hi : i < s.1 := hi
        show upd s.2 (s.1 - 1) _ i = upd s'.2 (s'.1 - 1) _ i
        have h1 := h.1
        rw [← k1, k2 (s.1 - 1) (by omega)]
        by_cases q : i = s.1 - 1
        · rw [q, w_updS, w_updS]
        · rw [w_updN q, w_updN q]; exact k2 i hi
      · next b =>
        rw [if_neg b, if_neg b]
        have h1 := h.2.1
        refine ih _ _ e h.2.2 ⟨by show s.1 - 1 = s'.1 - 1; rw [k1], fun i hi => ?_⟩
        have hi : i < s.1 - 1 := hi
        show upd s.2 (s.1 - 2) _ i = upd s'.2 (s'.1 - 2) _ i
        rw [← k1, k2 (s.1 - 1) (by omega), k2 (s.1 - 2) (by omega)]
        by_cases q : i = s.1 - 2
        · rw [q, w_updS, w_updS]
        · rw [w_updN q, w_updN q]; exact k2 i (by omega)
/-- a rule's value; whether some 'bar' isn't 0 -/
def e_val (nm : Nat → Int32) (L : List Int32) : Int32 := (e_run nm L (0, fun _ => 0)).2 0
def e_bar (nm : Nat → Int32) (rs : List (Bool × List Int32)) : Bool := rs.any (fun r => !r.1 && decide (¬ e_val nm r.2 = 0))
/-- the law in force -/
def lf_n (day : Nat → Int32) (D : Int32) (i : Nat) (l : Option Nat) : Option Nat := if D < day i then l else l.elim (some i) (fun q => if day i < day q then some q else some i)
def lf_ (day : Nat → Int32) (D : Int32) : Nat → Nat → Option Nat → Option Nat
  | 0, _, l => l
  | m + 1, i, l => lf_ day D m (i + 1) (lf_n day D i l)
theorem lf_succ {day : Nat → Int32} {D : Int32} {m i : Nat} {l : Option Nat} : lf_ day D (m + 1) i l = lf_ day D m (i + 1) (lf_n day D i l) := rfl
theorem lf_n1 {day : Nat → Int32} {D : Int32} {i : Nat} {l : Option Nat} (h : D < day i) : lf_n day D i l = l := if_pos h
theorem lf_n2 {day : Nat → Int32} {D : Int32} {i : Nat} (h : ¬ D < day i) : lf_n day D i none = some i := if_neg h
theorem lf_n3 {day : Nat → Int32} {D : Int32} {i q : Nat} (h : ¬ D < day i) : lf_n day D i (some q) = if day i < day q then some q else some i := if_neg h
end
section
/-! the class's judge -/
def w_st (nm : Nat → Int32) (x : e_T × Int32) (c : Int32) : e_T × Int32 := if c = -17 then ((x.1.1 - 1, x.1.2), x.2 ||| (if x.1.2 (x.1.1 - 1) = 0 then 0 else 1)) else if c = -18 then ((x.1.1 - 1, x.1.2), x.2) else (e_st nm x.1 c, x.2)
def fd_ : List Int32 → Nat → Prop
  | [], _ => True
  | c :: L, d => if c = -17 ∨ c = -18 then 1 ≤ d ∧ fd_ L (d - 1) else if -8 < c.toInt then d < 33 ∧ fd_ L (d + 1) else if c.toInt = -16 then 1 ≤ d ∧ fd_ L d else -16 < c.toInt ∧ 2 ≤ d ∧ fd_ L (d - 1)
theorem e_nend {c : Int32} (h : -16 ≤ c.toInt) : ¬ (c = -17 ∨ c = -18) := by
  have a : (-17 : Int32).toInt = -17 := by decide
  have b : (-18 : Int32).toInt = -18 := by decide
  rw [ki_eq, ki_eq, a, b]
  omega
theorem fd_ed : ∀ (L M : List Int32) (d e : Nat), ed_ 33 L d e → fd_ M e → fd_ (L ++ M) d := by
  intro L
  induction L with
  | nil => intro M d e h k; have h : d = e := h; rw [h]; exact k
  | cons c L ih =>
    intro M d e h k
    show fd_ (c :: (L ++ M)) d
    unfold ed_ at h
    unfold fd_
    split at h
    · next a => rw [if_neg (e_nend (by omega)), if_pos a]; exact ⟨h.1, ih M _ e h.2 k⟩
    · next a =>
      split at h
      · next b => rw [if_neg (e_nend (by omega)), if_neg a, if_pos b]; exact ⟨h.1, ih M _ e h.2 k⟩
      · next b => rw [if_neg (e_nend (by omega)), if_neg a, if_neg b]; exact ⟨h.1, h.2.1, ih M _ e h.2.2 k⟩
theorem fd_flat : ∀ rs : List (Bool × List Int32), (∀ r ∈ rs, ed_ 33 r.2 0 1) → fd_ (p_flat rs) 0 := by
  intro rs
  induction rs with
  | nil => intro _; exact trivial
  | cons r rs ih =>
    intro h
    have e : p_flat (r :: rs) = r.2 ++ ([if r.1 = true then -18 else -17] ++ p_flat rs) := by
      unfold p_flat
      rw [List.flatMap_cons, List.append_assoc]
    rw [e]
    refine fd_ed r.2 _ 0 1 (h r (List.mem_cons_self)) ?_
    show fd_ ((if r.1 = true then -18 else -17) :: p_flat rs) 1
    unfold fd_
    rw [if_pos (by split <;> simp)]
    exact ⟨Nat.le_refl 1, ih (fun q hq => h q (List.mem_cons_of_mem r hq))⟩
theorem w_run_ed {nm : Nat → Int32} {M : Nat} : ∀ (L : List Int32) (s : e_T) (b : Int32) (e : Nat), ed_ M L s.1 e → L.foldl (w_st nm) (s, b) = (e_run nm L s, b) := by
  intro L
  induction L with
  | nil => intro s b e _; rfl
  | cons c L ih =>
    intro s b e h
    have hc : -16 ≤ c.toInt ∧ ed_ M L (e_st nm s c).1 e := by
      unfold ed_ at h
      unfold e_st
      split at h
      · next a => rw [if_pos a]; exact ⟨by omega, h.2⟩
      · next a =>
        rw [if_neg a]
        split at h
        · next q => rw [if_pos q]; exact ⟨by omega, h.2⟩
        · next q => rw [if_neg q]; exact ⟨by omega, h.2.2⟩
    have ne := e_nend hc.1
    have e1 : w_st nm (s, b) c = (e_st nm s c, b) := by
      unfold w_st
      rw [if_neg (fun q => ne (.inl q)), if_neg (fun q => ne (.inr q))]
    show L.foldl (w_st nm) (w_st nm (s, b) c) = (e_run nm L (e_st nm s c), b)
    rw [e1]
    exact ih _ b e hc.2
theorem w_flat {nm : Nat → Int32} : ∀ (rs : List (Bool × List Int32)) (F : Nat → Int32) (b : Int32), (∀ r ∈ rs, ed_ 33 r.2 0 1) → (b = 0 ∨ b = 1) → ∃ F', (p_flat rs).foldl (w_st nm) ((0, F), b) = ((0, F'), if b = 1 ∨ e_bar nm rs = true then 1 else 0) := by
  intro rs
  induction rs with
  | nil =>
    intro F b _ hb
    refine ⟨F, ?_⟩
    show ((0, F), b) = _
    rcases hb with h | h
    · rw [h, if_neg]
      rintro (q | q)
      · exact absurd q (by decide)
      · exact absurd q (by unfold e_bar; simp)
    · rw [h, if_pos (.inl rfl)]
  | cons r rs ih =>
    intro F b h hb
    have e : p_flat (r :: rs) = r.2 ++ ((if r.1 = true then -18 else -17) :: p_flat rs) := by
      unfold p_flat
      rw [List.flatMap_cons, List.append_assoc]
      rfl
    have hr := h r (List.mem_cons_self)
    obtain ⟨x1, x2⟩ := e_run_ext (nm := nm) r.2 (0, F) (0, fun _ => 0) 1 hr ⟨rfl, fun i hi => absurd hi (Nat.not_lt_zero i)⟩
    have ev : (e_run nm r.2 (0, F)).2 0 = e_val nm r.2 := x1.2 0 (by rw [x2]; decide)
    rw [e, List.foldl_append, w_run_ed r.2 (0, F) b 1 hr, List.foldl_cons]
    have eb : e_bar nm (r :: rs) = ((!r.1 && decide (¬ e_val nm r.2 = 0)) || e_bar nm rs) := by
      unfold e_bar
      rw [List.any_cons]
    by_cases c : r.1 = true
    · rw [if_pos c]
      have e1 : w_st nm (e_run nm r.2 (0, F), b) (-18) = (((e_run nm r.2 (0, F)).1 - 1, (e_run nm r.2 (0, F)).2), b) := by
        unfold w_st
        rw [if_neg (by decide), if_pos rfl]
      rw [e1, x2]
      obtain ⟨F', hF⟩ := ih (e_run nm r.2 (0, F)).2 b (fun q hq => h q (List.mem_cons_of_mem r hq)) hb
      refine ⟨F', ?_⟩
      show List.foldl (w_st nm) ((0, (e_run nm r.2 (0, F)).2), b) (p_flat rs) = _
      rw [hF, eb, c]
      simp
    · rw [if_neg c]
      have c' : r.1 = false := by cases q : r.1; rfl; exact absurd q c
      have e1 : w_st nm (e_run nm r.2 (0, F), b) (-17) = (((e_run nm r.2 (0, F)).1 - 1, (e_run nm r.2 (0, F)).2), b ||| (if (e_run nm r.2 (0, F)).2 ((e_run nm r.2 (0, F)).1 - 1) = 0 then 0 else 1)) := by
        unfold w_st
        rw [if_pos rfl]
      rw [e1, x2]
      show ∃ F', List.foldl (w_st nm) ((0, (e_run nm r.2 (0, F)).2), b ||| (if (e_run nm r.2 (0, F)).2 0 = 0 then 0 else 1)) (p_flat rs) = _
      rw [ev]
      have hb2 : (b ||| (if e_val nm r.2 = 0 then 0 else 1)) = 0 ∨ (b ||| (if e_val nm r.2 = 0 then 0 else 1)) = 1 := by
        rcases hb with q | q <;> rw [q] <;> split <;> decide
      obtain ⟨F', hF⟩ := ih (e_run nm r.2 (0, F)).2 _ (fun q hq => h q (List.mem_cons_of_mem r hq)) hb2
      refine ⟨F', ?_⟩
      rw [hF, eb, c']
      by_cases z : e_val nm r.2 = 0
      · rw [if_pos z]
        have : (b ||| 0) = b := by rcases hb with q | q <;> rw [q] <;> decide
        rw [this]
        simp [z]
      · rw [if_neg z]
        have : (b ||| 1) = 1 := by rcases hb with q | q <;> rw [q] <;> decide
        rw [this]
        simp [z]
def j0_ (J st na : Nat) (σ : kx_S) : Prop := xr σ 80 J = some st ∧ xr σ 81 J = some na ∧ xn σ st = 33 ∧ xn σ na = 7 ∧ st ≠ na
/-- what judging leaves as it was -/
def jr_ (J st na : Nat) (σ u : kx_S) : Prop := (∀ f a, ¬ (a = J ∧ (f = 82 ∨ f = 83)) → xi u f a = xi σ f a) ∧ u.1 = σ.1 ∧ u.2.2.1 = σ.2.2.1 ∧ (∀ f a, ¬ (a = J ∧ f = 84) → xl u f a = xl σ f a) ∧ u.2.2.2.2.1 = σ.2.2.2.2.1 ∧ (∀ a, a ≠ st → a ≠ na → xai u a = xai σ a) ∧ u.2.2.2.2.2.2 = σ.2.2.2.2.2.2
theorem jr_refl {J st na : Nat} {σ : kx_S} : jr_ J st na σ σ := ⟨fun _ _ _ => rfl, rfl, rfl, fun _ _ _ => rfl, rfl, fun _ _ _ => rfl, rfl⟩
theorem jr_si {J st na : Nat} {σ u : kx_S} {g : Nat} {w : Int32} (h : jr_ J st na σ u) (hf : g = 82 ∨ g = 83) : jr_ J st na σ (xsi u g J w) := by
  refine ⟨fun e b h1 => ?_, h.2.1, h.2.2.1, h.2.2.2.1, h.2.2.2.2.1, h.2.2.2.2.2.1, h.2.2.2.2.2.2⟩
  refine Eq.trans ?_ (h.1 e b h1)
  show (if e = g then va_up (u.2.1 g) J w else u.2.1 e) b = u.2.1 e b
  by_cases c : e = g
  · subst c
    rw [if_pos rfl, va_up_ne]
    intro q
    exact h1 ⟨q, hf⟩
  · rw [if_neg c]
theorem jr_sl {J st na : Nat} {σ u : kx_S} {w : Int64} (h : jr_ J st na σ u) : jr_ J st na σ (xsl u 84 J w) := by
  refine ⟨h.1, h.2.1, h.2.2.1, fun e b h1 => ?_, h.2.2.2.2.1, h.2.2.2.2.2.1, h.2.2.2.2.2.2⟩
  refine Eq.trans ?_ (h.2.2.2.1 e b h1)
  show (if e = 84 then va_up (u.2.2.2.1 84) J w else u.2.2.2.1 e) b = u.2.2.2.1 e b
  by_cases c : e = 84
  · subst c
    rw [if_pos rfl, va_up_ne]
    intro q
    exact h1 ⟨q, rfl⟩
  · rw [if_neg c]
theorem jr_sai {J st na : Nat} {σ u : kx_S} {x i : Nat} {w : Int32} (h : jr_ J st na σ u) (hx : x = st ∨ x = na) : jr_ J st na σ (xsai u x i w) := by
  refine ⟨h.1, h.2.1, h.2.2.1, h.2.2.2.1, h.2.2.2.2.1, fun a h1 h2 => ?_, h.2.2.2.2.2.2⟩
  refine Eq.trans ?_ (h.2.2.2.2.2.1 a h1 h2)
  show va_up u.2.2.2.2.2.1 x _ a = u.2.2.2.2.2.1 a
  refine va_up_ne _ _ (fun q => ?_)
  rcases hx with e | e
  · exact h1 (q.trans e)
  · exact h2 (q.trans e)
def js_ (J st na : Nat) (σ : kx_S) (nm : Nat → Int32) (x : e_T × Int32) (u : kx_S) : Prop := jr_ J st na σ u ∧ (xi u 82 J).toInt = (x.1.1 : Int) ∧ (∀ i, i < x.1.1 → xai u st i = x.1.2 i) ∧ (∀ i, i < 7 → xai u na i = nm i) ∧ xi u 83 J = x.2
section
variable {J st na : Nat} {σ : kx_S} {nm : Nat → Int32}
theorem jr_r {u : kx_S} (h : jr_ J st na σ u) (g a : Nat) : xr u g a = xr σ g a := by
  show u.2.2.1 g a = σ.2.2.1 g a
  rw [h.2.2.1]
theorem jr_n {u : kx_S} (h : jr_ J st na σ u) (a : Nat) : xn u a = xn σ a := by
  show u.2.2.2.2.1 a = σ.2.2.2.2.1 a
  rw [h.2.2.2.2.1]
theorem js_st {u : kx_S} {a : Nat} (C : j0_ J st na σ) (h : jr_ J st na σ u) (e : xr u 80 J = some a) : st = a := by
  rw [jr_r h] at e
  exact Option.some.inj (C.1.symm.trans e)
theorem js_na {u : kx_S} {a : Nat} (C : j0_ J st na σ) (h : jr_ J st na σ u) (e : xr u 81 J = some a) : na = a := by
  rw [jr_r h] at e
  exact Option.some.inj (C.2.1.symm.trans e)
theorem vj_push {x : e_T × Int32} {v : Int32} {u : kx_S} {Q : kx_S → Prop} (C : j0_ J st na σ) (h : js_ J st na σ nm x u) (hl : x.1.1 < 33) (kk : ∀ u', js_ J st na σ nm ((x.1.1 + 1, upd x.1.2 x.1.1 v), x.2) u' → Q u') : vX3_push J v u Q := by
  obtain ⟨h1, h2, h3, h4, h5⟩ := h
  have z : (nI 33).toInt = 33 := by decide
  unfold vX3_push
  intro _ a2 e2 _
  obtain rfl := js_st C h1 e2
  rw [jr_n h1, C.2.2.1, ki_le, z, h2]
  refine ⟨fun c => absurd c (by omega), fun _ => ?_⟩
  intro a6 e6 _ _
  obtain rfl := js_st C h1 e6
  rintro σ10 rfl σ14 rfl
  have ei : (xi u 82 J).toNatClampNeg = x.1.1 := by rw [ki_nat, h2]; omega
  refine kk _ ⟨jr_si (jr_sai h1 (.inl rfl)) (.inl rfl), ?_, fun i hi => ?_, fun i hi => ?_, h5⟩
  · show (va_up (u.2.1 82) J (xi u 82 J + 1) J).toInt = ((x.1.1 + 1 : Nat) : Int)
    rw [va_up_self, ki_add (by rw [h2, ki_z1]; omega) (by rw [h2, ki_z1]; omega), h2, ki_z1]
    omega
  · have hi : i < x.1.1 + 1 := hi
    show va_up u.2.2.2.2.2.1 st (upd (u.2.2.2.2.2.1 st) (xi u 82 J).toNatClampNeg v) st i = upd x.1.2 x.1.1 v i
    rw [va_up_self, ei]
    by_cases c : i = x.1.1
    · rw [c, w_updS, w_updS]
    · rw [w_updN c, w_updN c]
      exact h3 i (by omega)
  · show va_up u.2.2.2.2.2.1 st _ na i = _
    rw [va_up_ne _ _ (Ne.symm C.2.2.2.2)]
    exact h4 i hi
theorem vj_pop {x : e_T × Int32} {u : kx_S} {Q : Int32 → kx_S → Prop} (C : j0_ J st na σ) (h : js_ J st na σ nm x u) (hl : 1 ≤ x.1.1) (h33 : x.1.1 ≤ 33) (kk : ∀ u', js_ J st na σ nm ((x.1.1 - 1, x.1.2), x.2) u' → Q (x.1.2 (x.1.1 - 1)) u') : vX3_pop J u Q := by
  obtain ⟨h1, h2, h3, h4, h5⟩ := h
  unfold vX3_pop
  intro _
  refine ⟨fun _ => ?_, fun c => ?_⟩
  · rintro σ3 rfl a5 e5 _ _
    have e5 : xr u 80 J = some a5 := e5
    obtain rfl := js_st C h1 e5
    have xe : xi (xsi u 82 J (xi u 82 J - 1)) 82 J = xi u 82 J - 1 := va_up_self _ _ _
    have ev : (xi u 82 J - 1).toInt = ((x.1.1 - 1 : Nat) : Int) := by
      rw [ki_sub (by rw [h2, ki_z1]; omega) (by rw [h2, ki_z1]; omega), h2, ki_z1]
      omega
    have ei : (xi (xsi u 82 J (xi u 82 J - 1)) 82 J).toNatClampNeg = x.1.1 - 1 := by
      rw [xe, ki_nat, ev]
      omega
    rw [ei]
    have ea : xai (xsi u 82 J (xi u 82 J - 1)) st (x.1.1 - 1) = x.1.2 (x.1.1 - 1) := h3 _ (by omega)
    rw [ea]
    refine kk _ ⟨jr_si h1 (.inl rfl), by rw [xe]; exact ev, fun i hi => h3 i (by have hi : i < x.1.1 - 1 := hi; omega), h4, h5⟩
  · have := congrArg Int32.toInt c
    rw [h2, ki_z0] at this
    omega
theorem e_j8 {a b : Int32} : e_join (-8) a b = a + b := if_pos rfl
theorem e_j9 {a b : Int32} : e_join (-9) a b = a - b := (if_neg (by decide)).trans (if_pos rfl)
theorem e_j10 {a b : Int32} : e_join (-10) a b = a * b := (if_neg (by decide)).trans ((if_neg (by decide)).trans (if_pos rfl))
theorem e_j11 {a b : Int32} : e_join (-11) a b = if b = 0 then 0 else a / b := (if_neg (by decide)).trans ((if_neg (by decide)).trans ((if_neg (by decide)).trans (if_pos rfl)))
theorem e_j12 {a b : Int32} : e_join (-12) a b = if b ≤ a then 0 else 1 := (if_neg (by decide)).trans ((if_neg (by decide)).trans ((if_neg (by decide)).trans ((if_neg (by decide)).trans (if_pos rfl))))
theorem e_j13 {a b : Int32} : e_join (-13) a b = if a = b then 1 else 0 := (if_neg (by decide)).trans ((if_neg (by decide)).trans ((if_neg (by decide)).trans ((if_neg (by decide)).trans ((if_neg (by decide)).trans (if_pos rfl)))))
theorem e_j14 {a b : Int32} : e_join (-14) a b = if a = 0 then 0 else if b = 0 then 0 else 1 := (if_neg (by decide)).trans ((if_neg (by decide)).trans ((if_neg (by decide)).trans ((if_neg (by decide)).trans ((if_neg (by decide)).trans ((if_neg (by decide)).trans (if_pos rfl))))))
theorem e_j15 {a b : Int32} : e_join (-15) a b = if a = 0 then (if b = 0 then 0 else 1) else 1 := (if_neg (by decide)).trans ((if_neg (by decide)).trans ((if_neg (by decide)).trans ((if_neg (by decide)).trans ((if_neg (by decide)).trans ((if_neg (by decide)).trans (if_neg (by decide)))))))
theorem e_cases {c : Int32} (h1 : ¬ -8 < c.toInt) (h2 : -16 < c.toInt) : c = -8 ∨ c = -9 ∨ c = -10 ∨ c = -11 ∨ c = -12 ∨ c = -13 ∨ c = -14 ∨ c = -15 := by
  simp only [ki_eq, show (-8 : Int32).toInt = -8 by decide, show (-9 : Int32).toInt = -9 by decide, show (-10 : Int32).toInt = -10 by decide, show (-11 : Int32).toInt = -11 by decide, show (-12 : Int32).toInt = -12 by decide, show (-13 : Int32).toInt = -13 by decide, show (-14 : Int32).toInt = -14 by decide, show (-15 : Int32).toInt = -15 by decide]
  omega
theorem vj_join {c a b : Int32} {u : kx_S} {Q : Int32 → kx_S → Prop} (h1 : ¬ -8 < c.toInt) (h2 : -16 < c.toInt) (kk : Q (e_join c a b) u) : vX3_join c a b u Q := by
  unfold vX3_join
  rintro v1 rfl
  refine ⟨fun e => ?_, fun e => ?_, fun e => ?_, fun e => ?_, fun e => ?_, fun e => ?_, fun e => ?_, fun e => ?_, fun n1 n2 n3 n4 n5 n6 n7 n8 => ?_⟩
  · rw [e, e_j15] at kk
    exact ⟨fun q => by rw [if_neg q] at kk; exact kk, fun q => ⟨fun r => by rw [if_pos q, if_pos r] at kk; exact kk, fun r => by rw [if_pos q, if_neg r] at kk; exact kk⟩⟩
  · rw [e, e_j14] at kk
    exact ⟨fun q => by rw [if_pos q] at kk; exact kk, fun q => ⟨fun r => by rw [if_neg q, if_pos r] at kk; exact kk, fun r => by rw [if_neg q, if_neg r] at kk; exact kk⟩⟩
  · rw [e, e_j13] at kk
    exact ⟨fun q => by rw [if_neg q] at kk; exact kk, fun q => by rw [if_pos q] at kk; exact kk⟩
  · rw [e, e_j12] at kk
    exact ⟨fun q => by rw [if_pos q] at kk; exact kk, fun q => by rw [if_neg q] at kk; exact kk⟩
  · rw [e, e_j11] at kk
    exact ⟨fun q _ => by rw [if_neg q] at kk; exact kk, fun q => by rw [if_pos q] at kk; exact kk⟩
  · rw [e, e_j10] at kk; exact kk
  · rw [e, e_j9] at kk; exact kk
  · rw [e, e_j8] at kk; exact kk
  · exfalso
    rcases e_cases h1 h2 with q | q | q | q | q | q | q | q
    · exact n8 q
    · exact n7 q
    · exact n6 q
    · exact n5 q
    · exact n4 q
    · exact n3 q
    · exact n2 q
    · exact n1 q
theorem vj_step {x : e_T × Int32} {c : Int32} {u : kx_S} {Q : kx_S → Prop} (C : j0_ J st na σ) (h : js_ J st na σ nm x u) (h33 : x.1.1 ≤ 33) (hc : fd_ [c] x.1.1) (kk : ∀ u', js_ J st na σ nm (w_st nm x c) u' → Q u') : vX3_step J c u Q := by
  have m7 : (-7 : Int32).toInt = -7 := by decide
  have m16 : (-16 : Int32).toInt = -16 := by decide
  have m17 : (-17 : Int32).toInt = -17 := by decide
  have m18 : (-18 : Int32).toInt = -18 := by decide
  unfold fd_ at hc
  unfold w_st at kk
  unfold vX3_step
  rw [ki_lt, ki_z0, ki_lt, m7]
  by_cases c17 : c = -17
  · rw [if_pos c17] at kk
    rw [if_pos (.inl c17)] at hc
    have ct : c.toInt = -17 := by rw [c17]; exact m17
    refine ⟨fun _ => ⟨fun _ => ⟨fun _ => ⟨fun q => absurd c17 q, fun _ _ => vj_pop C h hc.1 h33 (fun u' h' => ?_)⟩, fun q => absurd (q.symm.trans c17) (by decide)⟩, fun q => absurd (by omega) q⟩, fun q => absurd (by omega) q⟩
    have hb : xi u 83 J = x.2 := h.2.2.2.2
    rw [hb]
    refine ⟨fun q => ?_, fun q => ?_⟩
    · rw [if_pos q] at kk
      unfold vX3_step_81
      rintro _ _ σ5 rfl
      exact kk _ ⟨jr_si h'.1 (.inr rfl), h'.2.1, h'.2.2.1, h'.2.2.2.1, va_up_self _ _ _⟩
    · rw [if_neg q] at kk
      unfold vX3_step_81
      rintro _ _ σ5 rfl
      exact kk _ ⟨jr_si h'.1 (.inr rfl), h'.2.1, h'.2.2.1, h'.2.2.2.1, va_up_self _ _ _⟩
  rw [if_neg c17] at kk
  by_cases c18 : c = -18
  · rw [if_pos c18] at kk
    rw [if_pos (.inr c18)] at hc
    have ct : c.toInt = -18 := by rw [c18]; exact m18
    refine ⟨fun _ => ⟨fun _ => ⟨fun _ => ⟨fun _ => ⟨fun q => absurd c18 q, fun _ _ => vj_pop C h hc.1 h33 (fun u' h' => ?_)⟩, fun q => absurd q c17⟩, fun q => absurd (q.symm.trans c18) (by decide)⟩, fun q => absurd (by omega) q⟩, fun q => absurd (by omega) q⟩
    rintro _ σ26 rfl
    exact kk _ ⟨jr_sl h'.1, h'.2.1, h'.2.2.1, h'.2.2.2.1, h'.2.2.2.2⟩
  rw [if_neg c18] at kk
  rw [if_neg (fun q => q.elim c17 c18)] at hc
  unfold e_st at kk
  by_cases ps : -8 < c.toInt
  · rw [if_pos ps] at kk hc
    by_cases c0 : 0 ≤ c.toInt
    · rw [if_pos c0] at kk
      exact ⟨fun q => absurd q (by omega), fun _ _ => vj_push C h hc.1 kk⟩
    · rw [if_neg c0] at kk
      refine ⟨fun _ => ⟨fun q => absurd q (by omega), fun _ _ a37 e37 _ _ => ?_⟩, fun q => absurd (by omega) q⟩
      obtain rfl := js_na C h.1 e37
      have ei : (-1 - c).toNatClampNeg < 7 := by
        rw [ki_nat, ki_sub (by rw [ki_zm]; omega) (by rw [ki_zm]; omega), ki_zm]
        omega
      rw [h.2.2.2.1 _ ei]
      exact vj_push C h hc.1 kk
  · rw [if_neg ps] at kk hc
    by_cases c16 : c.toInt = -16
    · rw [if_pos c16] at kk hc
      have e16 : c = -16 := ki_eq.2 (by rw [c16, m16])
      refine ⟨fun _ => ⟨fun _ => ⟨fun q => absurd e16 q, fun _ _ => vj_pop C h hc.1 h33 (fun u' h' => ?_)⟩, fun q => absurd (by omega) q⟩, fun q => absurd (by omega) q⟩
      have h1 := hc.1
      have hx : x.1.1 - 1 + 1 = x.1.1 := by omega
      have fin : ∀ v : Int32, v = (if x.1.2 (x.1.1 - 1) = 0 then 1 else 0) → vX3_step_52 Q v J u' := by
        intro v ev
        unfold vX3_step_52
        intro _
        refine vj_push C h' (by show x.1.1 - 1 < 33; omega) (fun u2 h2 => kk u2 ?_)
        have h2 : js_ J st na σ nm ((x.1.1 - 1 + 1, upd x.1.2 (x.1.1 - 1) v), x.2) u2 := h2
        rw [hx, ev] at h2
        exact h2
      exact ⟨fun q => fin 0 (if_neg q).symm, fun q => fin 1 (if_pos q).symm⟩
    · rw [if_neg c16] at kk hc
      obtain ⟨g1, g2, _⟩ := hc
      have n16 : ¬ c = -16 := fun q => c16 (by rw [q]; exact m16)
      refine ⟨fun _ => ⟨fun _ => ⟨fun _ => ⟨fun _ => ⟨fun _ _ => vj_pop C h (by omega) h33 (fun u1 k1 => ?_), fun q => absurd q c18⟩, fun q => absurd q c17⟩, fun q => absurd q n16⟩, fun q => absurd (by omega) q⟩, fun q => absurd (by omega) q⟩
      intro _
      refine vj_pop C k1 (by show 1 ≤ x.1.1 - 1; omega) (by show x.1.1 - 1 ≤ 33; omega) (fun u2 k2 => ?_)
      refine vj_join ps g1 ?_
      intro _
      refine vj_push C k2 (by show x.1.1 - 1 - 1 < 33; omega) (fun u3 k3 => kk u3 ?_)
      have hx : x.1.1 - 1 - 1 = x.1.1 - 2 := by omega
      have hy : x.1.1 - 2 + 1 = x.1.1 - 1 := by omega
      have k3 : js_ J st na σ nm ((x.1.1 - 1 - 1 + 1, upd x.1.2 (x.1.1 - 1 - 1) (e_join c (x.1.2 (x.1.1 - 1 - 1)) (x.1.2 (x.1.1 - 1)))), x.2) u3 := k3
      rw [hx, hy] at k3
      exact k3
theorem fd_cons {c : Int32} {L : List Int32} {x : e_T × Int32} (h : fd_ (c :: L) x.1.1) (h33 : x.1.1 ≤ 33) : fd_ [c] x.1.1 ∧ fd_ L (w_st nm x c).1.1 ∧ (w_st nm x c).1.1 ≤ 33 := by
  have e1 : fd_ [c] x.1.1 = (if c = -17 ∨ c = -18 then 1 ≤ x.1.1 ∧ fd_ [] (x.1.1 - 1) else if -8 < c.toInt then x.1.1 < 33 ∧ fd_ [] (x.1.1 + 1) else if c.toInt = -16 then 1 ≤ x.1.1 ∧ fd_ [] x.1.1 else -16 < c.toInt ∧ 2 ≤ x.1.1 ∧ fd_ [] (x.1.1 - 1)) := rfl
  rw [e1]
  unfold fd_ at h
  unfold w_st e_st
  by_cases a : c = -17
  · rw [if_pos (.inl a)] at h
    rw [if_pos (.inl a), if_pos a]
    exact ⟨⟨h.1, trivial⟩, h.2, by show x.1.1 - 1 ≤ 33; omega⟩
  rw [if_neg a]
  by_cases b : c = -18
  · rw [if_pos (.inr b)] at h
    rw [if_pos (.inr b), if_pos b]
    exact ⟨⟨h.1, trivial⟩, h.2, by show x.1.1 - 1 ≤ 33; omega⟩
  rw [if_neg b]
  rw [if_neg (fun q => q.elim a b)] at h ⊢
  by_cases d : -8 < c.toInt
  · rw [if_pos d] at h
    rw [if_pos d, if_pos d]
    exact ⟨⟨h.1, trivial⟩, h.2, by show x.1.1 + 1 ≤ 33; omega⟩
  rw [if_neg d] at h
  rw [if_neg d, if_neg d]
  by_cases e : c.toInt = -16
  · rw [if_pos e] at h
    rw [if_pos e, if_pos e]
    exact ⟨⟨h.1, trivial⟩, h.2, h33⟩
  · rw [if_neg e] at h
    rw [if_neg e, if_neg e]
    exact ⟨⟨h.1, h.2.1, trivial⟩, h.2.2, by show x.1.1 - 1 ≤ 33; omega⟩
/-- a law's row in the class -/
def lc_ (lw la : Nat) (L : List Int32) (σ : kx_S) : Prop := xr σ 97 lw = some la ∧ xn σ la = L.length ∧ L.length ≤ 500 ∧ ∀ i, i < L.length → xai σ la i = L.getD i 0
theorem vj_loop {lw la : Nat} {L : List Int32} {Q : kx_S → Prop} (C : j0_ J st na σ) (hL : lc_ lw la L σ) (n1 : la ≠ st) (n2 : la ≠ na) : ∀ (j p : Nat) (i : Int32) (x : e_T × Int32) (u : kx_S), i.toInt = (p : Int) → p ≤ L.length → js_ J st na σ nm x u → x.1.1 ≤ 33 → fd_ (L.drop p) x.1.1 → (∀ u', js_ J st na σ nm ((L.drop p).foldl (w_st nm) x) u' → Q u') → vX3_weigh_91 Q j J (some lw) i u := by
  obtain ⟨l1, l2, l3, l4⟩ := hL
  have zn : (nI L.length).toInt = (L.length : Int) := t_nI l3
  intro j
  induction j with
  | zero => intro _ _ _ _ _ _ _ _ _ _; exact trivial
  | succ j ih =>
    intro p i x u hi hp h h33 hf kk
    unfold vX3_weigh_91
    intro a1 e1 _ a4 e4 _
    obtain rfl := Option.some.inj e1
    rw [jr_r h.1] at e4
    obtain rfl := Option.some.inj (l1.symm.trans e4)
    rw [jr_n h.1, l2, ki_le, zn, hi]
    refine ⟨fun c => ?_, fun c => ?_⟩
    · have : p = L.length := by omega
      rw [this, List.drop_length] at kk
      exact kk u h
    · have hlt : p < L.length := by omega
      intro a8 e8 _ a11 e11 _ _ _
      obtain rfl := Option.some.inj e8
      rw [jr_r h.1] at e11
      obtain rfl := Option.some.inj (l1.symm.trans e11)
      have ei : i.toNatClampNeg = p := by rw [ki_nat, hi]; omega
      have ex : xai u la p = L.getD p 0 := by
        rw [h.1.2.2.2.2.2.1 la n1 n2]
        exact l4 p hlt
      have ed : L.drop p = L.getD p 0 :: L.drop (p + 1) := by
        rw [List.drop_eq_getElem_cons hlt, List.getD_eq_getElem?_getD, List.getElem?_eq_getElem hlt]
        rfl
      rw [ed] at hf kk
      rw [ei, ex]
      obtain ⟨f1, f2, f3⟩ := fd_cons (nm := nm) hf h33
      refine vj_step C h h33 f1 (fun u2 h2 => ?_)
      intro v17 e17
      refine ih (p + 1) v17 _ u2 ?_ (by omega) h2 f3 f2 (fun u' h' => kk u' h')
      rw [e17, ki_add (by rw [hi, ki_z1]; omega) (by rw [hi, ki_z1]; omega), hi, ki_z1]
      omega
/-- the names, one after another -/
def jn_ (J st na : Nat) (σ : kx_S) (nm : Nat → Int32) (k : Nat) (u : kx_S) : Prop := jr_ J st na σ u ∧ xi u 82 J = 0 ∧ xi u 83 J = 0 ∧ ∀ i, i < k → xai u na i = nm i
theorem vj_name {k : Nat} {c v : Int32} {u : kx_S} {Q : kx_S → Prop} (C : j0_ J st na σ) (h : jn_ J st na σ nm k u) (hc : (-1 - c).toNatClampNeg = k) (hv : v = nm k) (kk : ∀ u', jn_ J st na σ nm (k + 1) u' → Q u') : vX3_name J c v u Q := by
  unfold vX3_name
  intro _ a2 e2 _ _
  obtain rfl := js_na C h.1 e2
  rw [hc]
  rintro σ6 rfl
  refine kk _ ⟨jr_sai h.1 (.inr rfl), h.2.1, h.2.2.1, fun i hi => ?_⟩
  show va_up u.2.2.2.2.2.1 na (upd (u.2.2.2.2.2.1 na) k v) na i = _
  rw [va_up_self]
  by_cases q : i = k
  · rw [q, w_updS, hv]
  · rw [w_updN q]
    exact h.2.2.2 i (by omega)
/-- the names of a log in a reach at an hour -/
def e_nm (y : Nat) (r hr : Int32) (σ : kx_S) (k : Nat) : Int32 := match k with
  | 0 => xi σ 129 y
  | 1 => xi σ 130 y
  | 2 => xi σ 131 y
  | 3 => hr - hr / 24 * 24
  | 4 => hr / 24
  | 5 => r
  | _ => xi σ 135 y
def e_barO (nm : Nat → Int32) : Option (List (Bool × List Int32)) → Bool
  | none => false
  | some rs => e_bar nm rs
theorem vj_weigh {lw : Option Nat} {rs : Option (List (Bool × List Int32))} {y : Nat} {r hr : Int32} {Q : kx_S → Prop} (C : j0_ J st na σ) (hy : y ≠ J) (h0 : lw = none → rs = none) (h1 : ∀ a, lw = some a → ∃ la R, rs = some R ∧ lc_ a la (p_flat R) σ ∧ la ≠ st ∧ la ≠ na ∧ ∀ x ∈ R, ed_ 33 x.2 0 1) (kk : ∀ u, jr_ J st na σ u → xi u 83 J = (if e_barO (e_nm y r hr σ) rs = true then 1 else 0) → Q u) : vX3_weigh J lw y r hr σ Q := by
  unfold vX3_weigh
  rintro _ σ19 rfl σ21 rfl σ23 rfl
  have r23 : jr_ J st na σ (xsi (xsl (xsi σ 83 J 0) 84 J 0) 82 J 0) := jr_si (jr_sl (jr_si jr_refl (.inr rfl))) (.inl rfl)
  have x82 : xi (xsi (xsl (xsi σ 83 J 0) 84 J 0) 82 J 0) 82 J = 0 := va_up_self _ _ _
  have x83 : xi (xsi (xsl (xsi σ 83 J 0) 84 J 0) 82 J 0) 83 J = 0 := va_up_self _ _ _
  generalize xsi (xsl (xsi σ 83 J 0) 84 J 0) 82 J 0 = u0 at *
  have xk : ∀ {u : kx_S} (g : Nat), jr_ J st na σ u → xi u g y = xi σ g y := fun g h => h.1 g y (fun q => hy q.1)
  refine ⟨fun a e => ?_, fun e => ?_⟩
  · obtain ⟨la, R, e1, e2, n1, n2, e3⟩ := h1 a e
    intro _
    refine vj_name (nm := e_nm y r hr σ) (k := 0) C ⟨r23, x82, x83, fun i hi => absurd hi (Nat.not_lt_zero i)⟩ (by decide) (xk 129 r23) (fun u1 k1 => ?_)
    intro _ _
    refine vj_name C k1 (by decide) (xk 130 k1.1) (fun u2 k2 => ?_)
    intro _ _
    refine vj_name C k2 (by decide) (xk 131 k2.1) (fun u3 k3 => ?_)
    intro _
    refine vj_name C k3 (by decide) rfl (fun u4 k4 => ?_)
    intro _
    refine vj_name C k4 (by decide) rfl (fun u5 k5 => ?_)
    intro _
    refine vj_name C k5 (by decide) rfl (fun u6 k6 => ?_)
    intro _ _
    refine vj_name C k6 (by decide) (xk 135 k6.1) (fun u7 k7 => ?_)
    intro j
    refine vj_loop (nm := e_nm y r hr σ) C e2 n1 n2 j 0 0 ((0, fun _ => 0), 0) u7 (by decide) (Nat.zero_le _) ⟨k7.1, by rw [k7.2.1]; rfl, fun i hi => absurd hi (Nat.not_lt_zero i), k7.2.2.2, k7.2.2.1⟩ (by decide) (fd_flat R e3) (fun u' h' => ?_)
    obtain ⟨F', hF⟩ := w_flat (nm := e_nm y r hr σ) R (fun _ => 0) 0 e3 (.inl rfl)
    have h' : js_ J st na σ (e_nm y r hr σ) ((p_flat R).foldl (w_st (e_nm y r hr σ)) ((0, fun _ => 0), 0)) u' := h'
    rw [hF] at h'
    refine kk u' h'.1 ?_
    rw [h'.2.2.2.2, e1]
    show (if (0 : Int32) = 1 ∨ e_bar (e_nm y r hr σ) R = true then (1 : Int32) else 0) = if e_bar (e_nm y r hr σ) R = true then 1 else 0
    by_cases q : e_bar (e_nm y r hr σ) R = true
    · rw [if_pos (.inr q), if_pos q]
    · rw [if_neg q, if_neg]
      rintro (z | z)
      · exact absurd z (by decide)
      · exact q z
  · refine kk u0 r23 ?_
    rw [x83, h0 e]
    rfl
end
/-- the class's law in force -/
theorem vj_force {L l3 m : Nat} {lw : Nat → Nat} {day : Nat → Int32} {D : Int32} {σ : kx_S} {Q : Option Nat → kx_S → Prop} (h1 : xr σ 210 L = some l3) (h2 : (xi σ 18 l3).toInt = (m : Int)) (hm : m ≤ 6) (hD : xi σ 217 L / 24 = D) (h3 : ∀ i, i < m → xe σ l3 i = some (lw i) ∧ xi σ 96 (lw i) = day i) (kk : Q ((lf_ day D m 0 none).map lw) σ) : vX11_lawInForce L σ Q := by
  unfold vX11_lawInForce
  have loop : ∀ (j k p : Nat) (i : Int32) (l : Option Nat), i.toInt = (p : Int) → p + k = m → (∀ q, l = some q → q < m) → Q ((lf_ day D k p l).map lw) σ → vX11_lawInForce_4 Q j L (l.map lw) i σ := by
    intro j
    induction j with
    | zero => intro _ _ _ _ _ _ _ _; exact trivial
    | succ j ih =>
      intro k p i l hi hp hl kq
      unfold vX11_lawInForce_4
      intro _ a9 e9 _
      obtain rfl := Option.some.inj (e9.symm.trans h1)
      unfold vJx4a65c_size_8abf5
      intro _
      rw [ki_le, h2, hi]
      refine ⟨fun c => ?_, fun c => ?_⟩
      · have : k = 0 := by omega
        subst this
        exact kq
      · obtain ⟨k, rfl⟩ : ∃ q, k = q + 1 := ⟨k - 1, by omega⟩
        intro _ a16 e16 _
        obtain rfl := Option.some.inj (e16.symm.trans e9)
        refine vy_get (fun _ _ => ?_)
        have ei : i.toNatClampNeg = p := by rw [ki_nat, hi]; omega
        obtain ⟨g1, g2⟩ := h3 p (by omega)
        rw [ei, g1]
        intro a21 e21 _ _
        obtain rfl := Option.some.inj e21
        rw [hD, g2]
        have nx : ∀ v1 : Int32, v1 = i + 1 → v1.toInt = ((p + 1 : Nat) : Int) := by
          intro v1 e
          rw [e, ki_add (by rw [hi, ki_z1]; omega) (by rw [hi, ki_z1]; omega), hi, ki_z1]
          omega
        rw [lf_succ] at kq
        refine ⟨fun d => ?_, fun d => ?_⟩
        · rw [lf_n1 d] at kq
          unfold vX11_lawInForce_50 vX11_lawInForce_74
          exact ⟨fun _ v1 e1 => ih k (p + 1) v1 l (nx v1 e1) (by omega) hl kq, fun x => absurd rfl x⟩
        · unfold vX11_lawInForce_50
          refine ⟨fun x => absurd x (by decide), fun _ => ?_⟩
          cases l with
          | none =>
            rw [lf_n2 d] at kq
            refine ⟨fun _ => ?_, fun a4 e4 => absurd e4 (by simp)⟩
            unfold vX11_lawInForce_72 vX11_lawInForce_74
            intro v1 e1
            exact ih k (p + 1) v1 (some p) (nx v1 e1) (by omega) (fun q e => by rw [← Option.some.inj e]; omega) kq
          | some q =>
            refine ⟨fun e => absurd e (by simp), fun a4 e4 _ _ => ?_⟩
            have e4 : some (lw q) = some a4 := e4
            obtain rfl := Option.some.inj e4
            obtain ⟨_, g4⟩ := h3 q (hl q rfl)
            rw [g2, g4]
            rw [lf_n3 d] at kq
            refine ⟨fun e => ?_, fun e => ?_⟩
            · rw [if_pos e] at kq
              unfold vX11_lawInForce_74
              intro v1 e1
              exact ih k (p + 1) v1 (some q) (nx v1 e1) (by omega) hl kq
            · rw [if_neg e] at kq
              unfold vX11_lawInForce_72 vX11_lawInForce_74
              intro v1 e1
              exact ih k (p + 1) v1 (some p) (nx v1 e1) (by omega) (fun q e => by rw [← Option.some.inj e]; omega) kq
  intro j
  exact loop j m 0 0 none (by decide) (by omega) (fun q e => absurd e (by simp)) kk
theorem lf_lt {day : Nat → Int32} {D : Int32} {m : Nat} : ∀ (k p : Nat) (l : Option Nat), p + k = m → (∀ q, l = some q → q < m) → ∀ q, lf_ day D k p l = some q → q < m := by
  intro k
  induction k with
  | zero => intro p l _ hl q e; exact hl q e
  | succ k ih =>
    intro p l hp hl
    refine ih (p + 1) _ (by omega) (fun q e => ?_)
    by_cases d : D < day p
    · rw [lf_n1 d] at e
      exact hl q e
    · cases l with
      | none =>
        rw [lf_n2 d] at e
        rw [← Option.some.inj e]; omega
      | some r =>
        rw [lf_n3 d] at e
        split at e
        · rw [← Option.some.inj e]; exact hl r rfl
        · rw [← Option.some.inj e]; omega
end

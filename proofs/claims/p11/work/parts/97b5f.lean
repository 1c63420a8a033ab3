def vX11_countJams_35 (k99 : Nat → Int32 → Int32 → Int32 → kx_S → Prop) (Q : Int32 → kx_S → Prop) : Nat → Nat → Int32 → Int32 → Int32 → Nat → Int32 → kx_S → Prop
  | 0, _, _, _, _, _, _, _ => True
  | n + 1, l0, l1, l2, l3, l4, l5, σ => xt σ l4 = 10 → ∀ a5, xr σ 163 l4 = some a5 → xt σ a5 = 1 → vJx4a65c_size_8abf5 a5 σ (fun r8 σ7 => ((r8 ≤ l5 → k99 l0 l1 l2 l3 σ7) ∧ (¬ (r8 ≤ l5) → xt σ7 l4 = 10 → ∀ a12, xr σ7 163 l4 = some a12 → xt σ7 a12 = 1 → vJx4a65c_get_915e3 a12 l5 σ7 (fun q15 σ14 => ∀ a17, q15 = some a17 → xt σ14 a17 = 3 → ((l1 = 0 → (((xi σ14 50 a17) = 0 → vX11_countJams_93 (vX11_countJams_35 k99 Q n) Q l0 l1 l2 l3 l4 l5 σ14) ∧ (¬ ((xi σ14 50 a17) = 0) → vX11_countJams_90 (vX11_countJams_93 (vX11_countJams_35 k99 Q n) Q) Q l0 l1 l2 l3 l4 l5 σ14))) ∧ (¬ (l1 = 0) → (((xi σ14 51 a17) = 0 → vX11_countJams_93 (vX11_countJams_35 k99 Q n) Q l0 l1 l2 l3 l4 l5 σ14) ∧ (¬ ((xi σ14 51 a17) = 0) → vX11_countJams_90 (vX11_countJams_93 (vX11_countJams_35 k99 Q n) Q) Q l0 l1 l2 l3 l4 l5 σ14))))))))
set_option maxRecDepth 100000 in
set_option maxHeartbeats 4000000 in
theorem jcX11_countJams_35 {k99 k99' k99'' : Nat → Int32 → Int32 → Int32 → kx_S → Prop} (hk99 : ∀ y0 y1 y2 y3 y4, k99 y0 y1 y2 y3 y4 → k99' y0 y1 y2 y3 y4 → k99'' y0 y1 y2 y3 y4) {Q Q' Q'' : Int32 → kx_S → Prop} (hQ : ∀ y0 y1, Q y0 y1 → Q' y0 y1 → Q'' y0 y1) : ∀ (n : Nat) (l0 : Nat) (l1 : Int32) (l2 : Int32) (l3 : Int32) (l4 : Nat) (l5 : Int32) (σ : kx_S), wX11_countJams_35 k99 Q n l0 l1 l2 l3 l4 l5 σ → vX11_countJams_35 k99' Q' n l0 l1 l2 l3 l4 l5 σ → wX11_countJams_35 k99'' Q'' n l0 l1 l2 l3 l4 l5 σ := by
  intro n
  induction n with
  | zero => intro l0 l1 l2 l3 l4 l5 σ h; exact h.elim
  | succ n ih =>
    intro l0 l1 l2 l3 l4 l5 σ h v
    unfold wX11_countJams_35 at h
    unfold vX11_countJams_35 at v
    unfold wX11_countJams_35
    refine ⟨h.1, ?_⟩
    have v := v h.1
    have h := h.2
    obtain ⟨a5, e2, h⟩ := h
    refine ⟨a5, e2, ?_⟩
    have v := v a5 e2
    refine ⟨h.1, ?_⟩
    have v := v h.1
    have h := h.2
    refine jcJx4a65c_size_8abf5 ?_ _ _ h v
    intro r8 σ7 h v
    refine ⟨?_, ?_⟩
    · have h := h.1
      have v := v.1
      intro e4
      have h := h e4
      have v := v e4
      exact hk99 _ _ _ _ _ h v
    · have h := h.2
      have v := v.2
      intro e5
      have h := h e5
      have v := v e5
      refine ⟨h.1, ?_⟩
      have v := v h.1
      have h := h.2
      obtain ⟨a12, e7, h⟩ := h
      refine ⟨a12, e7, ?_⟩
      have v := v a12 e7
      refine ⟨h.1, ?_⟩
      have v := v h.1
      have h := h.2
      refine jcJx4a65c_get_915e3 ?_ _ _ _ h v
      intro q15 σ14 h v
      obtain ⟨a17, e9, h⟩ := h
      refine ⟨a17, e9, ?_⟩
      have v := v a17 e9
      refine ⟨h.1, ?_⟩
      have v := v h.1
      have h := h.2
      refine ⟨?_, ?_⟩
      · have h := h.1
        have v := v.1
        intro e11
        have h := h e11
        have v := v e11
        refine ⟨?_, ?_⟩
        · have h := h.1
          have v := v.1
          intro e12
          have h := h e12
          have v := v e12
          exact jcX11_countJams_93 (k35 := wX11_countJams_35 k99 Q n) (k35' := vX11_countJams_35 k99' Q' n) (k35'' := wX11_countJams_35 k99'' Q'' n) (fun _ _ _ _ _ _ _ h v => ih _ _ _ _ _ _ _ h v) hQ _ _ _ _ _ _ _ h v
        · have h := h.2
          have v := v.2
          intro e13
          have h := h e13
          have v := v e13
          exact jcX11_countJams_90 (k93 := wX11_countJams_93 (wX11_countJams_35 k99 Q n) Q) (k93' := vX11_countJams_93 (vX11_countJams_35 k99' Q' n) Q') (k93'' := wX11_countJams_93 (wX11_countJams_35 k99'' Q'' n) Q'') (fun _ _ _ _ _ _ _ h v => jcX11_countJams_93 (k35 := wX11_countJams_35 k99 Q n) (k35' := vX11_countJams_35 k99' Q' n) (k35'' := wX11_countJams_35 k99'' Q'' n) (fun _ _ _ _ _ _ _ h v => ih _ _ _ _ _ _ _ h v) hQ _ _ _ _ _ _ _ h v) hQ _ _ _ _ _ _ _ h v
      · have h := h.2
        have v := v.2
        intro e14
        have h := h e14
        have v := v e14
        refine ⟨?_, ?_⟩
        · have h := h.1
          have v := v.1
          intro e15
          have h := h e15
          have v := v e15
          exact jcX11_countJams_93 (k35 := wX11_countJams_35 k99 Q n) (k35' := vX11_countJams_35 k99' Q' n) (k35'' := wX11_countJams_35 k99'' Q'' n) (fun _ _ _ _ _ _ _ h v => ih _ _ _ _ _ _ _ h v) hQ _ _ _ _ _ _ _ h v
        · have h := h.2
          have v := v.2
          intro e16
          have h := h e16
          have v := v e16
          exact jcX11_countJams_90 (k93 := wX11_countJams_93 (wX11_countJams_35 k99 Q n) Q) (k93' := vX11_countJams_93 (vX11_countJams_35 k99' Q' n) Q') (k93'' := wX11_countJams_93 (wX11_countJams_35 k99'' Q'' n) Q'') (fun _ _ _ _ _ _ _ h v => jcX11_countJams_93 (k35 := wX11_countJams_35 k99 Q n) (k35' := vX11_countJams_35 k99' Q' n) (k35'' := wX11_countJams_35 k99'' Q'' n) (fun _ _ _ _ _ _ _ h v => ih _ _ _ _ _ _ _ h v) hQ _ _ _ _ _ _ _ h v) hQ _ _ _ _ _ _ _ h v
set_option maxRecDepth 100000 in
set_option maxHeartbeats 4000000 in
theorem jaX11_countJams_35 {k99 k99' : Nat → Int32 → Int32 → Int32 → kx_S → Prop} (hk99 : ∀ y0 y1 y2 y3 y4, k99 y0 y1 y2 y3 y4 → k99' y0 y1 y2 y3 y4) {Q Q' : Int32 → kx_S → Prop} (hQ : ∀ y0 y1, Q y0 y1 → Q' y0 y1) : ∀ (n m : Nat) (l0 : Nat) (l1 : Int32) (l2 : Int32) (l3 : Int32) (l4 : Nat) (l5 : Int32) (σ : kx_S), wX11_countJams_35 k99 Q n l0 l1 l2 l3 l4 l5 σ → vX11_countJams_35 k99' Q' m l0 l1 l2 l3 l4 l5 σ := by
  intro n
  induction n with
  | zero => intro m l0 l1 l2 l3 l4 l5 σ h; exact h.elim
  | succ n ih =>
    intro m l0 l1 l2 l3 l4 l5 σ h
    cases m with
    | zero => exact trivial
    | succ m =>
      unfold wX11_countJams_35 at h
      unfold vX11_countJams_35
      intro e1
      have h := h.2
      obtain ⟨a5', e2, h⟩ := h
      intro a5 e3
      have x9 : a5' = a5 := Option.some.inj (e2.symm.trans e3)
      rw [x9] at h
      intro e4
      have h := h.2
      refine jaJx4a65c_size_8abf5 ?_ _ _ h
      intro r8 σ7 h
      refine ⟨?_, ?_⟩
      · have h := h.1
        intro e5
        have h := h e5
        exact hk99 _ _ _ _ _ h
      · have h := h.2
        intro e6
        have h := h e6
        intro e7
        have h := h.2
        obtain ⟨a12', e8, h⟩ := h
        intro a12 e9
        have x9 : a12' = a12 := Option.some.inj (e8.symm.trans e9)
        rw [x9] at h
        intro e10
        have h := h.2
        refine jaJx4a65c_get_915e3 ?_ _ _ _ h
        intro q15 σ14 h
        obtain ⟨a17', e11, h⟩ := h
        intro a17 e12
        have x9 : a17' = a17 := Option.some.inj (e11.symm.trans e12)
        rw [x9] at h
        intro e13
        have h := h.2
        refine ⟨?_, ?_⟩
        · have h := h.1
          intro e14
          have h := h e14
          refine ⟨?_, ?_⟩
          · have h := h.1
            intro e15
            have h := h e15
            exact jaX11_countJams_93 (k35 := wX11_countJams_35 k99 Q n) (k35' := vX11_countJams_35 k99' Q' m) (fun _ _ _ _ _ _ _ h => ih m _ _ _ _ _ _ _ h) hQ _ _ _ _ _ _ _ h
          · have h := h.2
            intro e16
            have h := h e16
            exact jaX11_countJams_90 (k93 := wX11_countJams_93 (wX11_countJams_35 k99 Q n) Q) (k93' := vX11_countJams_93 (vX11_countJams_35 k99' Q' m) Q') (fun _ _ _ _ _ _ _ h => jaX11_countJams_93 (k35 := wX11_countJams_35 k99 Q n) (k35' := vX11_countJams_35 k99' Q' m) (fun _ _ _ _ _ _ _ h => ih m _ _ _ _ _ _ _ h) hQ _ _ _ _ _ _ _ h) hQ _ _ _ _ _ _ _ h
        · have h := h.2
          intro e17
          have h := h e17
          refine ⟨?_, ?_⟩
          · have h := h.1
            intro e18
            have h := h e18
            exact jaX11_countJams_93 (k35 := wX11_countJams_35 k99 Q n) (k35' := vX11_countJams_35 k99' Q' m) (fun _ _ _ _ _ _ _ h => ih m _ _ _ _ _ _ _ h) hQ _ _ _ _ _ _ _ h
          · have h := h.2
            intro e19
            have h := h e19
            exact jaX11_countJams_90 (k93 := wX11_countJams_93 (wX11_countJams_35 k99 Q n) Q) (k93' := vX11_countJams_93 (vX11_countJams_35 k99' Q' m) Q') (fun _ _ _ _ _ _ _ h => jaX11_countJams_93 (k35 := wX11_countJams_35 k99 Q n) (k35' := vX11_countJams_35 k99' Q' m) (fun _ _ _ _ _ _ _ h => ih m _ _ _ _ _ _ _ h) hQ _ _ _ _ _ _ _ h) hQ _ _ _ _ _ _ _ h
set_option maxRecDepth 100000 in
set_option maxHeartbeats 4000000 in
theorem jfX11_countJams_35 {I : kx_S → Prop} (W : fw_ I []) {k99 : Nat → Int32 → Int32 → Int32 → kx_S → Prop} (hk99 : ∀ y0 y1 y2 y3 y4, I y4 → k99 y0 y1 y2 y3 y4) {Q : Int32 → kx_S → Prop} (hQ : ∀ y0 y1, I y1 → Q y0 y1) : ∀ (n : Nat) (l0 : Nat) (l1 : Int32) (l2 : Int32) (l3 : Int32) (l4 : Nat) (l5 : Int32) (σ : kx_S), I σ → vX11_countJams_35 k99 Q n l0 l1 l2 l3 l4 l5 σ := by
  intro n
  induction n with
  | zero => intro l0 l1 l2 l3 l4 l5 σ i; exact trivial
  | succ n ih =>
    intro l0 l1 l2 l3 l4 l5 σ i
    unfold vX11_countJams_35
    intro e1
    intro a5 e2
    intro e3
    refine jfJx4a65c_size_8abf5 (I := I) (fw_sub W (by decide)) ?_ _ _ i
    intro r8 σ7 iσ7
    refine ⟨?_, ?_⟩
    · intro e4
      exact hk99 _ _ _ _ _ iσ7
    · intro e5
      intro e6
      intro a12 e7
      intro e8
      refine jfJx4a65c_get_915e3 (I := I) (fw_sub W (by decide)) ?_ _ _ _ iσ7
      intro q15 σ14 iσ14
      intro a17 e9
      intro e10
      refine ⟨?_, ?_⟩
      · intro e11
        refine ⟨?_, ?_⟩
        · intro e12
          exact jfX11_countJams_93 (I := I) (fw_sub W (by decide)) (k35 := vX11_countJams_35 k99 Q n) (fun _ _ _ _ _ _ _ i => ih _ _ _ _ _ _ _ i) hQ _ _ _ _ _ _ _ iσ14
        · intro e13
          exact jfX11_countJams_90 (I := I) (fw_sub W (by decide)) (k93 := vX11_countJams_93 (vX11_countJams_35 k99 Q n) Q) (fun _ _ _ _ _ _ _ i => jfX11_countJams_93 (I := I) (fw_sub W (by decide)) (k35 := vX11_countJams_35 k99 Q n) (fun _ _ _ _ _ _ _ i => ih _ _ _ _ _ _ _ i) hQ _ _ _ _ _ _ _ i) hQ _ _ _ _ _ _ _ iσ14
      · intro e14
        refine ⟨?_, ?_⟩
        · intro e15
          exact jfX11_countJams_93 (I := I) (fw_sub W (by decide)) (k35 := vX11_countJams_35 k99 Q n) (fun _ _ _ _ _ _ _ i => ih _ _ _ _ _ _ _ i) hQ _ _ _ _ _ _ _ iσ14
        · intro e16
          exact jfX11_countJams_90 (I := I) (fw_sub W (by decide)) (k93 := vX11_countJams_93 (vX11_countJams_35 k99 Q n) Q) (fun _ _ _ _ _ _ _ i => jfX11_countJams_93 (I := I) (fw_sub W (by decide)) (k35 := vX11_countJams_35 k99 Q n) (fun _ _ _ _ _ _ _ i => ih _ _ _ _ _ _ _ i) hQ _ _ _ _ _ _ _ i) hQ _ _ _ _ _ _ _ iσ14
def vX11_countJams_4 (Q : Int32 → kx_S → Prop) : Nat → Nat → Int32 → Int32 → Int32 → kx_S → Prop
  | 0, _, _, _, _, _ => True
  | n + 1, l0, l1, l2, l3, σ => xt σ l0 = 13 → ∀ a24, xr σ 208 l0 = some a24 → xt σ a24 = 1 → vJx4a65c_size_8abf5 a24 σ (fun r27 σ26 => ((r27 ≤ l3 → Q l2 σ26) ∧ (¬ (r27 ≤ l3) → xt σ26 l0 = 13 → ∀ a31, xr σ26 208 l0 = some a31 → xt σ26 a31 = 1 → vJx4a65c_get_915e3 a31 l3 σ26 (fun q34 σ33 => ∀ a36, q34 = some a36 → xt σ33 a36 = 10 → ∀ j, vX11_countJams_35 (vX11_countJams_99 (vX11_countJams_4 Q n) Q) Q j l0 l1 l2 l3 a36 0 σ33))))
set_option maxRecDepth 100000 in
set_option maxHeartbeats 4000000 in
theorem jcX11_countJams_4 {Q Q' Q'' : Int32 → kx_S → Prop} (hQ : ∀ y0 y1, Q y0 y1 → Q' y0 y1 → Q'' y0 y1) : ∀ (n : Nat) (l0 : Nat) (l1 : Int32) (l2 : Int32) (l3 : Int32) (σ : kx_S), wX11_countJams_4 Q n l0 l1 l2 l3 σ → vX11_countJams_4 Q' n l0 l1 l2 l3 σ → wX11_countJams_4 Q'' n l0 l1 l2 l3 σ := by
  intro n
  induction n with
  | zero => intro l0 l1 l2 l3 σ h; exact h.elim
  | succ n ih =>
    intro l0 l1 l2 l3 σ h v
    unfold wX11_countJams_4 at h
    unfold vX11_countJams_4 at v
    unfold wX11_countJams_4
    refine ⟨h.1, ?_⟩
    have v := v h.1
    have h := h.2
    obtain ⟨a24, e2, h⟩ := h
    refine ⟨a24, e2, ?_⟩
    have v := v a24 e2
    refine ⟨h.1, ?_⟩
    have v := v h.1
    have h := h.2
    refine jcJx4a65c_size_8abf5 ?_ _ _ h v
    intro r27 σ26 h v
    refine ⟨?_, ?_⟩
    · have h := h.1
      have v := v.1
      intro e4
      have h := h e4
      have v := v e4
      exact hQ _ _ h v
    · have h := h.2
      have v := v.2
      intro e5
      have h := h e5
      have v := v e5
      refine ⟨h.1, ?_⟩
      have v := v h.1
      have h := h.2
      obtain ⟨a31, e7, h⟩ := h
      refine ⟨a31, e7, ?_⟩
      have v := v a31 e7
      refine ⟨h.1, ?_⟩
      have v := v h.1
      have h := h.2
      refine jcJx4a65c_get_915e3 ?_ _ _ _ h v
      intro q34 σ33 h v
      obtain ⟨a36, e9, h⟩ := h
      refine ⟨a36, e9, ?_⟩
      have v := v a36 e9
      refine ⟨h.1, ?_⟩
      have v := v h.1
      have h := h.2
      obtain ⟨j, h⟩ := h
      refine ⟨j, ?_⟩
      have v := v j
      exact jcX11_countJams_35 (k99 := wX11_countJams_99 (wX11_countJams_4 Q n) Q) (k99' := vX11_countJams_99 (vX11_countJams_4 Q' n) Q') (k99'' := wX11_countJams_99 (wX11_countJams_4 Q'' n) Q'') (fun _ _ _ _ _ h v => jcX11_countJams_99 (k4 := wX11_countJams_4 Q n) (k4' := vX11_countJams_4 Q' n) (k4'' := wX11_countJams_4 Q'' n) (fun _ _ _ _ _ h v => ih _ _ _ _ _ h v) hQ _ _ _ _ _ h v) hQ _ _ _ _ _ _ _ _ h v
set_option maxRecDepth 100000 in
set_option maxHeartbeats 4000000 in
theorem jaX11_countJams_4 {Q Q' : Int32 → kx_S → Prop} (hQ : ∀ y0 y1, Q y0 y1 → Q' y0 y1) : ∀ (n m : Nat) (l0 : Nat) (l1 : Int32) (l2 : Int32) (l3 : Int32) (σ : kx_S), wX11_countJams_4 Q n l0 l1 l2 l3 σ → vX11_countJams_4 Q' m l0 l1 l2 l3 σ := by
  intro n
  induction n with
  | zero => intro m l0 l1 l2 l3 σ h; exact h.elim
  | succ n ih =>
    intro m l0 l1 l2 l3 σ h
    cases m with
    | zero => exact trivial
    | succ m =>
      unfold wX11_countJams_4 at h
      unfold vX11_countJams_4
      intro e1
      have h := h.2
      obtain ⟨a24', e2, h⟩ := h
      intro a24 e3
      have x9 : a24' = a24 := Option.some.inj (e2.symm.trans e3)
      rw [x9] at h
      intro e4
      have h := h.2
      refine jaJx4a65c_size_8abf5 ?_ _ _ h
      intro r27 σ26 h
      refine ⟨?_, ?_⟩
      · have h := h.1
        intro e5
        have h := h e5
        exact hQ _ _ h
      · have h := h.2
        intro e6
        have h := h e6
        intro e7
        have h := h.2
        obtain ⟨a31', e8, h⟩ := h
        intro a31 e9
        have x9 : a31' = a31 := Option.some.inj (e8.symm.trans e9)
        rw [x9] at h
        intro e10
        have h := h.2
        refine jaJx4a65c_get_915e3 ?_ _ _ _ h
        intro q34 σ33 h
        obtain ⟨a36', e11, h⟩ := h
        intro a36 e12
        have x9 : a36' = a36 := Option.some.inj (e11.symm.trans e12)
        rw [x9] at h
        intro e13
        have h := h.2
        obtain ⟨j, h⟩ := h
        intro j9
        exact jaX11_countJams_35 (k99 := wX11_countJams_99 (wX11_countJams_4 Q n) Q) (k99' := vX11_countJams_99 (vX11_countJams_4 Q' m) Q') (fun _ _ _ _ _ h => jaX11_countJams_99 (k4 := wX11_countJams_4 Q n) (k4' := vX11_countJams_4 Q' m) (fun _ _ _ _ _ h => ih m _ _ _ _ _ h) hQ _ _ _ _ _ h) hQ _ j9 _ _ _ _ _ _ _ h
set_option maxRecDepth 100000 in
set_option maxHeartbeats 4000000 in
theorem jfX11_countJams_4 {I : kx_S → Prop} (W : fw_ I []) {Q : Int32 → kx_S → Prop} (hQ : ∀ y0 y1, I y1 → Q y0 y1) : ∀ (n : Nat) (l0 : Nat) (l1 : Int32) (l2 : Int32) (l3 : Int32) (σ : kx_S), I σ → vX11_countJams_4 Q n l0 l1 l2 l3 σ := by
  intro n
  induction n with
  | zero => intro l0 l1 l2 l3 σ i; exact trivial
  | succ n ih =>
    intro l0 l1 l2 l3 σ i
    unfold vX11_countJams_4
    intro e1
    intro a24 e2
    intro e3
    refine jfJx4a65c_size_8abf5 (I := I) (fw_sub W (by decide)) ?_ _ _ i
    intro r27 σ26 iσ26
    refine ⟨?_, ?_⟩
    · intro e4
      exact hQ _ _ iσ26
    · intro e5
      intro e6
      intro a31 e7
      intro e8
      refine jfJx4a65c_get_915e3 (I := I) (fw_sub W (by decide)) ?_ _ _ _ iσ26
      intro q34 σ33 iσ33
      intro a36 e9
      intro e10
      intro j
      exact jfX11_countJams_35 (I := I) (fw_sub W (by decide)) (k99 := vX11_countJams_99 (vX11_countJams_4 Q n) Q) (fun _ _ _ _ _ i => jfX11_countJams_99 (I := I) (fw_sub W (by decide)) (k4 := vX11_countJams_4 Q n) (fun _ _ _ _ _ i => ih _ _ _ _ _ i) hQ _ _ _ _ _ i) hQ _ _ _ _ _ _ _ _ iσ33
def vX11_countJams (l0 : Nat) (l1 : Int32) (σ : kx_S) (Q : Int32 → kx_S → Prop) : Prop := ∀ j, vX11_countJams_4 Q j l0 l1 0 0 σ
set_option maxRecDepth 100000 in
set_option maxHeartbeats 4000000 in
theorem jcX11_countJams {Q Q' Q'' : Int32 → kx_S → Prop} (hQ : ∀ y0 y1, Q y0 y1 → Q' y0 y1 → Q'' y0 y1) : ∀ (l0 : Nat) (l1 : Int32) (σ : kx_S), wX11_countJams l0 l1 σ Q → vX11_countJams l0 l1 σ Q' → wX11_countJams l0 l1 σ Q'' := by
  intro l0 l1 σ h v
  unfold wX11_countJams at h
  unfold vX11_countJams at v
  unfold wX11_countJams
  obtain ⟨j, h⟩ := h
  refine ⟨j, ?_⟩
  have v := v j
  exact jcX11_countJams_4 hQ _ _ _ _ _ _ h v
set_option maxRecDepth 100000 in
set_option maxHeartbeats 4000000 in
theorem jaX11_countJams {Q Q' : Int32 → kx_S → Prop} (hQ : ∀ y0 y1, Q y0 y1 → Q' y0 y1) : ∀ (l0 : Nat) (l1 : Int32) (σ : kx_S), wX11_countJams l0 l1 σ Q → vX11_countJams l0 l1 σ Q' := by
  intro l0 l1 σ h
  unfold wX11_countJams at h
  unfold vX11_countJams
  obtain ⟨j, h⟩ := h
  intro j9
  exact jaX11_countJams_4 hQ _ j9 _ _ _ _ _ h
set_option maxRecDepth 100000 in
set_option maxHeartbeats 4000000 in
theorem jfX11_countJams {I : kx_S → Prop} (W : fw_ I []) {Q : Int32 → kx_S → Prop} (hQ : ∀ y0 y1, I y1 → Q y0 y1) : ∀ (l0 : Nat) (l1 : Int32) (σ : kx_S), I σ → vX11_countJams l0 l1 σ Q := by
  intro l0 l1 σ i
  unfold vX11_countJams
  intro j
  exact jfX11_countJams_4 (I := I) (fw_sub W (by decide)) hQ _ _ _ _ _ _ i
def vX11_count (l0 : Nat) (l1 : Int32) (σ : kx_S) (Q : Int32 → kx_S → Prop) (QX : String → kx_S → Prop) : Prop := ∀ v1, v1 = l1 → ((v1 = 0 → xt σ l0 = 13 → Q (xi σ 217 l0) σ) ∧ ((v1 = 1 → xt σ l0 = 13 → ∀ a6, xr σ 208 l0 = some a6 → xt σ a6 = 1 → vJx4a65c_size_8abf5 a6 σ (fun r9 σ8 => Q r9 σ8)) ∧ ((v1 = 2 → xt σ l0 = 13 → ∀ a13, xr σ 209 l0 = some a13 → xt σ a13 = 1 → vJx4a65c_size_8abf5 a13 σ (fun r16 σ15 => Q r16 σ15)) ∧ ((v1 = 3 → xt σ l0 = 13 → ∀ a20, xr σ 210 l0 = some a20 → xt σ a20 = 1 → vJx4a65c_size_8abf5 a20 σ (fun r23 σ22 => Q r23 σ22)) ∧ ((v1 = 4 → xt σ l0 = 13 → Q (xi σ 218 l0) σ) ∧ ((v1 = 5 → xt σ l0 = 13 → ∀ a29, xr σ 211 l0 = some a29 → xt σ a29 = 1 → vJx4a65c_size_8abf5 a29 σ (fun r32 σ31 => Q r32 σ31)) ∧ ((v1 = 6 → xt σ l0 = 13 → vX11_countJams l0 0 σ (fun r36 σ35 => Q r36 σ35)) ∧ ((v1 = 7 → xt σ l0 = 13 → vX11_countJams l0 1 σ (fun r40 σ39 => Q r40 σ39)) ∧ ((v1 = 8 → xt σ l0 = 13 → ∀ a44, xr σ 212 l0 = some a44 → xt σ a44 = 1 → vJx4a65c_size_8abf5 a44 σ (fun r47 σ46 => Q r47 σ46)) ∧ ((v1 = 9 → xt σ l0 = 13 → ∀ a51, xr σ 213 l0 = some a51 → xt σ a51 = 11 → Q (xi σ 177 a51) σ) ∧ (¬ v1 = 0 → ¬ v1 = 1 → ¬ v1 = 2 → ¬ v1 = 3 → ¬ v1 = 4 → ¬ v1 = 5 → ¬ v1 = 6 → ¬ v1 = 7 → ¬ v1 = 8 → ¬ v1 = 9 → xc σ < kx_N → QX pz_N (xbump σ))))))))))))
set_option maxRecDepth 100000 in
set_option maxHeartbeats 4000000 in
theorem jcX11_count {Q Q' Q'' : Int32 → kx_S → Prop} (hQ : ∀ y0 y1, Q y0 y1 → Q' y0 y1 → Q'' y0 y1) {QX QX' QX'' : String → kx_S → Prop} (hX : ∀ y0 y1, QX y0 y1 → QX' y0 y1 → QX'' y0 y1) : ∀ (l0 : Nat) (l1 : Int32) (σ : kx_S), wX11_count l0 l1 σ Q QX → vX11_count l0 l1 σ Q' QX' → wX11_count l0 l1 σ Q'' QX'' := by
  intro l0 l1 σ h v
  unfold wX11_count at h
  unfold vX11_count at v
  unfold wX11_count
  intro v1 e1
  have h := h v1 e1
  have v := v v1 e1
  refine ⟨?_, ?_⟩
  · have h := h.1
    have v := v.1
    intro e2
    have h := h e2
    have v := v e2
    refine ⟨h.1, ?_⟩
    have v := v h.1
    have h := h.2
    exact hQ _ _ h v
  · have h := h.2
    have v := v.2
    refine ⟨?_, ?_⟩
    · have h := h.1
      have v := v.1
      intro e4
      have h := h e4
      have v := v e4
      refine ⟨h.1, ?_⟩
      have v := v h.1
      have h := h.2
      obtain ⟨a6, e6, h⟩ := h
      refine ⟨a6, e6, ?_⟩
      have v := v a6 e6
      refine ⟨h.1, ?_⟩
      have v := v h.1
      have h := h.2
      refine jcJx4a65c_size_8abf5 ?_ _ _ h v
      intro r9 σ8 h v
      exact hQ _ _ h v
    · have h := h.2
      have v := v.2
      refine ⟨?_, ?_⟩
      · have h := h.1
        have v := v.1
        intro e8
        have h := h e8
        have v := v e8
        refine ⟨h.1, ?_⟩
        have v := v h.1
        have h := h.2
        obtain ⟨a13, e10, h⟩ := h
        refine ⟨a13, e10, ?_⟩
        have v := v a13 e10
        refine ⟨h.1, ?_⟩
        have v := v h.1
        have h := h.2
        refine jcJx4a65c_size_8abf5 ?_ _ _ h v
        intro r16 σ15 h v
        exact hQ _ _ h v
      · have h := h.2
        have v := v.2
        refine ⟨?_, ?_⟩
        · have h := h.1
          have v := v.1
          intro e12
          have h := h e12
          have v := v e12
          refine ⟨h.1, ?_⟩
          have v := v h.1
          have h := h.2
          obtain ⟨a20, e14, h⟩ := h
          refine ⟨a20, e14, ?_⟩
          have v := v a20 e14
          refine ⟨h.1, ?_⟩
          have v := v h.1
          have h := h.2
          refine jcJx4a65c_size_8abf5 ?_ _ _ h v
          intro r23 σ22 h v
          exact hQ _ _ h v
        · have h := h.2
          have v := v.2
          refine ⟨?_, ?_⟩
          · have h := h.1
            have v := v.1
            intro e16
            have h := h e16
            have v := v e16
            refine ⟨h.1, ?_⟩
            have v := v h.1
            have h := h.2
            exact hQ _ _ h v
          · have h := h.2
            have v := v.2
            refine ⟨?_, ?_⟩
            · have h := h.1
              have v := v.1
              intro e18
              have h := h e18
              have v := v e18
              refine ⟨h.1, ?_⟩
              have v := v h.1
              have h := h.2
              obtain ⟨a29, e20, h⟩ := h
              refine ⟨a29, e20, ?_⟩
              have v := v a29 e20
              refine ⟨h.1, ?_⟩
              have v := v h.1
              have h := h.2
              refine jcJx4a65c_size_8abf5 ?_ _ _ h v
              intro r32 σ31 h v
              exact hQ _ _ h v
            · have h := h.2
              have v := v.2
              refine ⟨?_, ?_⟩
              · have h := h.1
                have v := v.1
                intro e22
                have h := h e22
                have v := v e22
                refine ⟨h.1, ?_⟩
                have v := v h.1
                have h := h.2
                refine jcX11_countJams ?_ _ _ _ h v
                intro r36 σ35 h v
                exact hQ _ _ h v
              · have h := h.2
                have v := v.2
                refine ⟨?_, ?_⟩
                · have h := h.1
                  have v := v.1
                  intro e24
                  have h := h e24
                  have v := v e24
                  refine ⟨h.1, ?_⟩
                  have v := v h.1
                  have h := h.2
                  refine jcX11_countJams ?_ _ _ _ h v
                  intro r40 σ39 h v
                  exact hQ _ _ h v
                · have h := h.2
                  have v := v.2
                  refine ⟨?_, ?_⟩
                  · have h := h.1
                    have v := v.1
                    intro e26
                    have h := h e26
                    have v := v e26
                    refine ⟨h.1, ?_⟩
                    have v := v h.1
                    have h := h.2
                    obtain ⟨a44, e28, h⟩ := h
                    refine ⟨a44, e28, ?_⟩
                    have v := v a44 e28
                    refine ⟨h.1, ?_⟩
                    have v := v h.1
                    have h := h.2
                    refine jcJx4a65c_size_8abf5 ?_ _ _ h v
                    intro r47 σ46 h v
                    exact hQ _ _ h v
                  · have h := h.2
                    have v := v.2
                    refine ⟨?_, ?_⟩
                    · have h := h.1
                      have v := v.1
                      intro e30
                      have h := h e30
                      have v := v e30
                      refine ⟨h.1, ?_⟩
                      have v := v h.1
                      have h := h.2
                      obtain ⟨a51, e32, h⟩ := h
                      refine ⟨a51, e32, ?_⟩
                      have v := v a51 e32
                      refine ⟨h.1, ?_⟩
                      have v := v h.1
                      have h := h.2
                      exact hQ _ _ h v
                    · have h := h.2
                      have v := v.2
                      intro e34 e35 e36 e37 e38 e39 e40 e41 e42 e43
                      have h := h e34 e35 e36 e37 e38 e39 e40 e41 e42 e43
                      have v := v e34 e35 e36 e37 e38 e39 e40 e41 e42 e43
                      refine ⟨h.1, ?_⟩
                      have v := v h.1
                      have h := h.2
                      exact hX _ _ h v
set_option maxRecDepth 100000 in
set_option maxHeartbeats 4000000 in
theorem jaX11_count {Q Q' : Int32 → kx_S → Prop} (hQ : ∀ y0 y1, Q y0 y1 → Q' y0 y1) {QX QX' : String → kx_S → Prop} (hX : ∀ y0 y1, QX y0 y1 → QX' y0 y1) : ∀ (l0 : Nat) (l1 : Int32) (σ : kx_S), wX11_count l0 l1 σ Q QX → vX11_count l0 l1 σ Q' QX' := by
  intro l0 l1 σ h
  unfold wX11_count at h
  unfold vX11_count
  intro v1 e1
  have h := h v1 e1
  refine ⟨?_, ?_⟩
  · have h := h.1
    intro e2
    have h := h e2
    intro e3
    have h := h.2
    exact hQ _ _ h
  · have h := h.2
    refine ⟨?_, ?_⟩
    · have h := h.1
      intro e4
      have h := h e4
      intro e5
      have h := h.2
      obtain ⟨a6', e6, h⟩ := h
      intro a6 e7
      have x9 : a6' = a6 := Option.some.inj (e6.symm.trans e7)
      rw [x9] at h
      intro e8
      have h := h.2
      refine jaJx4a65c_size_8abf5 ?_ _ _ h
      intro r9 σ8 h
      exact hQ _ _ h
    · have h := h.2
      refine ⟨?_, ?_⟩
      · have h := h.1
        intro e9
        have h := h e9
        intro e10
        have h := h.2
        obtain ⟨a13', e11, h⟩ := h
        intro a13 e12
        have x9 : a13' = a13 := Option.some.inj (e11.symm.trans e12)
        rw [x9] at h
        intro e13
        have h := h.2
        refine jaJx4a65c_size_8abf5 ?_ _ _ h
        intro r16 σ15 h
        exact hQ _ _ h
      · have h := h.2
        refine ⟨?_, ?_⟩
        · have h := h.1
          intro e14
          have h := h e14
          intro e15
          have h := h.2
          obtain ⟨a20', e16, h⟩ := h
          intro a20 e17
          have x9 : a20' = a20 := Option.some.inj (e16.symm.trans e17)
          rw [x9] at h
          intro e18
          have h := h.2
          refine jaJx4a65c_size_8abf5 ?_ _ _ h
          intro r23 σ22 h
          exact hQ _ _ h
        · have h := h.2
          refine ⟨?_, ?_⟩
          · have h := h.1
            intro e19
            have h := h e19
            intro e20
            have h := h.2
            exact hQ _ _ h
          · have h := h.2
            refine ⟨?_, ?_⟩
            · have h := h.1
              intro e21
              have h := h e21
              intro e22
              have h := h.2
              obtain ⟨a29', e23, h⟩ := h
              intro a29 e24
              have x9 : a29' = a29 := Option.some.inj (e23.symm.trans e24)
              rw [x9] at h
              intro e25
              have h := h.2
              refine jaJx4a65c_size_8abf5 ?_ _ _ h
              intro r32 σ31 h
              exact hQ _ _ h
            · have h := h.2
              refine ⟨?_, ?_⟩
              · have h := h.1
                intro e26
                have h := h e26
                intro e27
                have h := h.2
                refine jaX11_countJams ?_ _ _ _ h
                intro r36 σ35 h
                exact hQ _ _ h
              · have h := h.2
                refine ⟨?_, ?_⟩
                · have h := h.1
                  intro e28
                  have h := h e28
                  intro e29
                  have h := h.2
                  refine jaX11_countJams ?_ _ _ _ h
                  intro r40 σ39 h
                  exact hQ _ _ h
                · have h := h.2
                  refine ⟨?_, ?_⟩
                  · have h := h.1
                    intro e30
                    have h := h e30
                    intro e31
                    have h := h.2
                    obtain ⟨a44', e32, h⟩ := h
                    intro a44 e33
                    have x9 : a44' = a44 := Option.some.inj (e32.symm.trans e33)
                    rw [x9] at h
                    intro e34
                    have h := h.2
                    refine jaJx4a65c_size_8abf5 ?_ _ _ h
                    intro r47 σ46 h
                    exact hQ _ _ h
                  · have h := h.2
                    refine ⟨?_, ?_⟩
                    · have h := h.1
                      intro e35
                      have h := h e35
                      intro e36
                      have h := h.2
                      obtain ⟨a51', e37, h⟩ := h
                      intro a51 e38
                      have x9 : a51' = a51 := Option.some.inj (e37.symm.trans e38)
                      rw [x9] at h
                      intro e39
                      have h := h.2
                      exact hQ _ _ h
                    · have h := h.2
                      intro e40 e41 e42 e43 e44 e45 e46 e47 e48 e49
                      have h := h e40 e41 e42 e43 e44 e45 e46 e47 e48 e49
                      intro e50
                      have h := h.2
                      exact hX _ _ h
set_option maxRecDepth 100000 in
set_option maxHeartbeats 4000000 in
theorem jfX11_count {I : kx_S → Prop} (W : fw_ I [1005]) {Q : Int32 → kx_S → Prop} (hQ : ∀ y0 y1, I y1 → Q y0 y1) {QX : String → kx_S → Prop} (hX : ∀ y0 y1, I y1 → QX y0 y1) : ∀ (l0 : Nat) (l1 : Int32) (σ : kx_S), I σ → vX11_count l0 l1 σ Q QX := by
  intro l0 l1 σ i
  unfold vX11_count
  intro v1 e1
  refine ⟨?_, ?_⟩
  · intro e2
    intro e3
    exact hQ _ _ i
  · refine ⟨?_, ?_⟩
    · intro e4
      intro e5
      intro a6 e6
      intro e7
      refine jfJx4a65c_size_8abf5 (I := I) (fw_sub W (by decide)) ?_ _ _ i
      intro r9 σ8 iσ8
      exact hQ _ _ iσ8
    · refine ⟨?_, ?_⟩
      · intro e8
        intro e9
        intro a13 e10
        intro e11
        refine jfJx4a65c_size_8abf5 (I := I) (fw_sub W (by decide)) ?_ _ _ i
        intro r16 σ15 iσ15
        exact hQ _ _ iσ15
      · refine ⟨?_, ?_⟩
        · intro e12
          intro e13
          intro a20 e14
          intro e15
          refine jfJx4a65c_size_8abf5 (I := I) (fw_sub W (by decide)) ?_ _ _ i
          intro r23 σ22 iσ22
          exact hQ _ _ iσ22
        · refine ⟨?_, ?_⟩
          · intro e16
            intro e17
            exact hQ _ _ i
          · refine ⟨?_, ?_⟩
            · intro e18
              intro e19
              intro a29 e20
              intro e21
              refine jfJx4a65c_size_8abf5 (I := I) (fw_sub W (by decide)) ?_ _ _ i
              intro r32 σ31 iσ31
              exact hQ _ _ iσ31
            · refine ⟨?_, ?_⟩
              · intro e22
                intro e23
                refine jfX11_countJams (I := I) (fw_sub W (by decide)) ?_ _ _ _ i
                intro r36 σ35 iσ35
                exact hQ _ _ iσ35
              · refine ⟨?_, ?_⟩
                · intro e24
                  intro e25
                  refine jfX11_countJams (I := I) (fw_sub W (by decide)) ?_ _ _ _ i
                  intro r40 σ39 iσ39
                  exact hQ _ _ iσ39
                · refine ⟨?_, ?_⟩
                  · intro e26
                    intro e27
                    intro a44 e28
                    intro e29
                    refine jfJx4a65c_size_8abf5 (I := I) (fw_sub W (by decide)) ?_ _ _ i
                    intro r47 σ46 iσ46
                    exact hQ _ _ iσ46
                  · refine ⟨?_, ?_⟩
                    · intro e30
                      intro e31
                      intro a51 e32
                      intro e33
                      exact hQ _ _ i
                    · intro e34 e35 e36 e37 e38 e39 e40 e41 e42 e43
                      intro e44
                      exact hX _ _ ((W _ i).2.2.2.2.2.1 (by decide))

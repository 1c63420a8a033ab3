def vX11_sawFor (l0 : Nat) (l1 : Nat) (l2 : Nat) (l3 : Int32) (σ : kx_S) (Q : Int32 → kx_S → Prop) : Prop := ∀ j, vX11_sawFor_3 Q j l0 l1 l2 l3 0 σ
set_option maxRecDepth 100000 in
set_option maxHeartbeats 4000000 in
theorem jcX11_sawFor {Q Q' Q'' : Int32 → kx_S → Prop} (hQ : ∀ y0 y1, Q y0 y1 → Q' y0 y1 → Q'' y0 y1) : ∀ (l0 : Nat) (l1 : Nat) (l2 : Nat) (l3 : Int32) (σ : kx_S), wX11_sawFor l0 l1 l2 l3 σ Q → vX11_sawFor l0 l1 l2 l3 σ Q' → wX11_sawFor l0 l1 l2 l3 σ Q'' := by
  intro l0 l1 l2 l3 σ h v
  unfold wX11_sawFor at h
  unfold vX11_sawFor at v
  unfold wX11_sawFor
  obtain ⟨j, h⟩ := h
  refine ⟨j, ?_⟩
  have v := v j
  exact jcX11_sawFor_3 hQ _ _ _ _ _ _ _ h v
set_option maxRecDepth 100000 in
set_option maxHeartbeats 4000000 in
theorem jaX11_sawFor {Q Q' : Int32 → kx_S → Prop} (hQ : ∀ y0 y1, Q y0 y1 → Q' y0 y1) : ∀ (l0 : Nat) (l1 : Nat) (l2 : Nat) (l3 : Int32) (σ : kx_S), wX11_sawFor l0 l1 l2 l3 σ Q → vX11_sawFor l0 l1 l2 l3 σ Q' := by
  intro l0 l1 l2 l3 σ h
  unfold wX11_sawFor at h
  unfold vX11_sawFor
  obtain ⟨j, h⟩ := h
  intro j9
  exact jaX11_sawFor_3 hQ _ j9 _ _ _ _ _ _ h
set_option maxRecDepth 100000 in
set_option maxHeartbeats 4000000 in
theorem jfX11_sawFor {I : kx_S → Prop} (W : fw_ I [16, 18, 132, 136, 146, 218, 1003]) {Q : Int32 → kx_S → Prop} (hQ : ∀ y0 y1, I y1 → Q y0 y1) : ∀ (l0 : Nat) (l1 : Nat) (l2 : Nat) (l3 : Int32) (σ : kx_S), I σ → vX11_sawFor l0 l1 l2 l3 σ Q := by
  intro l0 l1 l2 l3 σ i
  unfold vX11_sawFor
  intro j
  exact jfX11_sawFor_3 (I := I) (fw_sub W (by decide)) hQ _ _ _ _ _ _ _ i
def vX11_runMills_91 (k2 : Nat → Int32 → kx_S → Prop) (Q : kx_S → Prop) (l0 : Nat) (l1 : Int32) (σ : kx_S) : Prop := ∀ v1 : Int32, v1 = l1 + 1 → k2 l0 v1 σ
set_option maxRecDepth 100000 in
set_option maxHeartbeats 4000000 in
theorem jcX11_runMills_91 {k2 k2' k2'' : Nat → Int32 → kx_S → Prop} (hk2 : ∀ y0 y1 y2, k2 y0 y1 y2 → k2' y0 y1 y2 → k2'' y0 y1 y2) {Q Q' Q'' : kx_S → Prop} (hQ : ∀ y0, Q y0 → Q' y0 → Q'' y0) : ∀ (l0 : Nat) (l1 : Int32) (σ : kx_S), wX11_runMills_91 k2 Q l0 l1 σ → vX11_runMills_91 k2' Q' l0 l1 σ → wX11_runMills_91 k2'' Q'' l0 l1 σ := by
  intro l0 l1 σ h v
  unfold wX11_runMills_91 at h
  unfold vX11_runMills_91 at v
  unfold wX11_runMills_91
  intro v1 e1
  have h := h v1 e1
  have v := v v1 e1
  exact hk2 _ _ _ h v
set_option maxRecDepth 100000 in
set_option maxHeartbeats 4000000 in
theorem jaX11_runMills_91 {k2 k2' : Nat → Int32 → kx_S → Prop} (hk2 : ∀ y0 y1 y2, k2 y0 y1 y2 → k2' y0 y1 y2) {Q Q' : kx_S → Prop} (hQ : ∀ y0, Q y0 → Q' y0) : ∀ (l0 : Nat) (l1 : Int32) (σ : kx_S), wX11_runMills_91 k2 Q l0 l1 σ → vX11_runMills_91 k2' Q' l0 l1 σ := by
  intro l0 l1 σ h
  unfold wX11_runMills_91 at h
  unfold vX11_runMills_91
  intro v1 e1
  have h := h v1 e1
  exact hk2 _ _ _ h
set_option maxRecDepth 100000 in
set_option maxHeartbeats 4000000 in
theorem jfX11_runMills_91 {I : kx_S → Prop} (W : fw_ I []) {k2 : Nat → Int32 → kx_S → Prop} (hk2 : ∀ y0 y1 y2, I y2 → k2 y0 y1 y2) {Q : kx_S → Prop} (hQ : ∀ y0, I y0 → Q y0) : ∀ (l0 : Nat) (l1 : Int32) (σ : kx_S), I σ → vX11_runMills_91 k2 Q l0 l1 σ := by
  intro l0 l1 σ i
  unfold vX11_runMills_91
  intro v1 e1
  exact hk2 _ _ _ i
def vX11_runMills_44 (k91 : Nat → Int32 → kx_S → Prop) (Q : kx_S → Prop) : Nat → Nat → Int32 → (Option Nat) → Int32 → Int32 → kx_S → Prop
  | 0, _, _, _, _, _, _ => True
  | n + 1, l0, l1, l2, l3, l4, σ => ∀ a2, l2 = some a2 → xt σ a2 = 2 → ∀ a5, xr σ 33 a2 = some a5 → xt σ a5 = 1 → vJx4a65c_size_8abf5 a5 σ (fun r8 σ7 => ((r8 ≤ l4 → k91 l0 l1 σ7) ∧ (¬ (r8 ≤ l4) → ((l3 ≤ 0 → k91 l0 l1 σ7) ∧ (¬ (l3 ≤ 0) → ∀ a12, l2 = some a12 → xt σ7 a12 = 2 → ∀ a15, xr σ7 33 a12 = some a15 → xt σ7 a15 = 1 → vJx4a65c_get_915e3 a15 l4 σ7 (fun q18 σ17 => ∀ a20, q18 = some a20 → xt σ17 a20 = 9 → ∀ a23, l2 = some a23 → xt σ17 l0 = 13 → vX11_sawFor l0 a20 a23 l3 σ17 (fun r26 σ25 => ∀ v28, v28 = l3 - r26 → ∀ v29 : Int32, v29 = l4 + 1 → vX11_runMills_44 k91 Q n l0 l1 (some a23) v28 v29 σ25)))))))
set_option maxRecDepth 100000 in
set_option maxHeartbeats 4000000 in
theorem jcX11_runMills_44 {k91 k91' k91'' : Nat → Int32 → kx_S → Prop} (hk91 : ∀ y0 y1 y2, k91 y0 y1 y2 → k91' y0 y1 y2 → k91'' y0 y1 y2) {Q Q' Q'' : kx_S → Prop} (hQ : ∀ y0, Q y0 → Q' y0 → Q'' y0) : ∀ (n : Nat) (l0 : Nat) (l1 : Int32) (l2 : (Option Nat)) (l3 : Int32) (l4 : Int32) (σ : kx_S), wX11_runMills_44 k91 Q n l0 l1 l2 l3 l4 σ → vX11_runMills_44 k91' Q' n l0 l1 l2 l3 l4 σ → wX11_runMills_44 k91'' Q'' n l0 l1 l2 l3 l4 σ := by
  intro n
  induction n with
  | zero => intro l0 l1 l2 l3 l4 σ h; exact h.elim
  | succ n ih =>
    intro l0 l1 l2 l3 l4 σ h v
    unfold wX11_runMills_44 at h
    unfold vX11_runMills_44 at v
    unfold wX11_runMills_44
    obtain ⟨a2, e1, h⟩ := h
    refine ⟨a2, e1, ?_⟩
    have v := v a2 e1
    refine ⟨h.1, ?_⟩
    have v := v h.1
    have h := h.2
    obtain ⟨a5, e3, h⟩ := h
    refine ⟨a5, e3, ?_⟩
    have v := v a5 e3
    refine ⟨h.1, ?_⟩
    have v := v h.1
    have h := h.2
    refine jcJx4a65c_size_8abf5 ?_ _ _ h v
    intro r8 σ7 h v
    refine ⟨?_, ?_⟩
    · have h := h.1
      have v := v.1
      intro e5
      have h := h e5
      have v := v e5
      exact hk91 _ _ _ h v
    · have h := h.2
      have v := v.2
      intro e6
      have h := h e6
      have v := v e6
      refine ⟨?_, ?_⟩
      · have h := h.1
        have v := v.1
        intro e7
        have h := h e7
        have v := v e7
        exact hk91 _ _ _ h v
      · have h := h.2
        have v := v.2
        intro e8
        have h := h e8
        have v := v e8
        obtain ⟨a12, e9, h⟩ := h
        refine ⟨a12, e9, ?_⟩
        have v := v a12 e9
        refine ⟨h.1, ?_⟩
        have v := v h.1
        have h := h.2
        obtain ⟨a15, e11, h⟩ := h
        refine ⟨a15, e11, ?_⟩
        have v := v a15 e11
        refine ⟨h.1, ?_⟩
        have v := v h.1
        have h := h.2
        refine jcJx4a65c_get_915e3 ?_ _ _ _ h v
        intro q18 σ17 h v
        obtain ⟨a20, e13, h⟩ := h
        refine ⟨a20, e13, ?_⟩
        have v := v a20 e13
        refine ⟨h.1, ?_⟩
        have v := v h.1
        have h := h.2
        obtain ⟨a23, e15, h⟩ := h
        refine ⟨a23, e15, ?_⟩
        have v := v a23 e15
        refine ⟨h.1, ?_⟩
        have v := v h.1
        have h := h.2
        refine jcX11_sawFor ?_ _ _ _ _ _ h v
        intro r26 σ25 h v
        intro v28 e17
        have h := h v28 e17
        have v := v v28 e17
        intro v29 e18
        have h := h v29 e18
        have v := v v29 e18
        exact ih _ _ _ _ _ _ h v
set_option maxRecDepth 100000 in
set_option maxHeartbeats 4000000 in
theorem jaX11_runMills_44 {k91 k91' : Nat → Int32 → kx_S → Prop} (hk91 : ∀ y0 y1 y2, k91 y0 y1 y2 → k91' y0 y1 y2) {Q Q' : kx_S → Prop} (hQ : ∀ y0, Q y0 → Q' y0) : ∀ (n m : Nat) (l0 : Nat) (l1 : Int32) (l2 : (Option Nat)) (l3 : Int32) (l4 : Int32) (σ : kx_S), wX11_runMills_44 k91 Q n l0 l1 l2 l3 l4 σ → vX11_runMills_44 k91' Q' m l0 l1 l2 l3 l4 σ := by
  intro n
  induction n with
  | zero => intro m l0 l1 l2 l3 l4 σ h; exact h.elim
  | succ n ih =>
    intro m l0 l1 l2 l3 l4 σ h
    cases m with
    | zero => exact trivial
    | succ m =>
      unfold wX11_runMills_44 at h
      unfold vX11_runMills_44
      obtain ⟨a2', e1, h⟩ := h
      intro a2 e2
      have x9 : a2' = a2 := Option.some.inj (e1.symm.trans e2)
      rw [x9] at h
      intro e3
      have h := h.2
      obtain ⟨a5', e4, h⟩ := h
      intro a5 e5
      have x9 : a5' = a5 := Option.some.inj (e4.symm.trans e5)
      rw [x9] at h
      intro e6
      have h := h.2
      refine jaJx4a65c_size_8abf5 ?_ _ _ h
      intro r8 σ7 h
      refine ⟨?_, ?_⟩
      · have h := h.1
        intro e7
        have h := h e7
        exact hk91 _ _ _ h
      · have h := h.2
        intro e8
        have h := h e8
        refine ⟨?_, ?_⟩
        · have h := h.1
          intro e9
          have h := h e9
          exact hk91 _ _ _ h
        · have h := h.2
          intro e10
          have h := h e10
          obtain ⟨a12', e11, h⟩ := h
          intro a12 e12
          have x9 : a12' = a12 := Option.some.inj (e11.symm.trans e12)
          rw [x9] at h
          intro e13
          have h := h.2
          obtain ⟨a15', e14, h⟩ := h
          intro a15 e15
          have x9 : a15' = a15 := Option.some.inj (e14.symm.trans e15)
          rw [x9] at h
          intro e16
          have h := h.2
          refine jaJx4a65c_get_915e3 ?_ _ _ _ h
          intro q18 σ17 h
          obtain ⟨a20', e17, h⟩ := h
          intro a20 e18
          have x9 : a20' = a20 := Option.some.inj (e17.symm.trans e18)
          rw [x9] at h
          intro e19
          have h := h.2
          obtain ⟨a23', e20, h⟩ := h
          intro a23 e21
          have x9 : a23' = a23 := Option.some.inj (e20.symm.trans e21)
          rw [x9] at h
          intro e22
          have h := h.2
          refine jaX11_sawFor ?_ _ _ _ _ _ h
          intro r26 σ25 h
          intro v28 e23
          have h := h v28 e23
          intro v29 e24
          have h := h v29 e24
          exact ih m _ _ _ _ _ _ h
set_option maxRecDepth 100000 in
set_option maxHeartbeats 4000000 in
theorem jfX11_runMills_44 {I : kx_S → Prop} (W : fw_ I [16, 18, 132, 136, 146, 218, 1003]) {k91 : Nat → Int32 → kx_S → Prop} (hk91 : ∀ y0 y1 y2, I y2 → k91 y0 y1 y2) {Q : kx_S → Prop} (hQ : ∀ y0, I y0 → Q y0) : ∀ (n : Nat) (l0 : Nat) (l1 : Int32) (l2 : (Option Nat)) (l3 : Int32) (l4 : Int32) (σ : kx_S), I σ → vX11_runMills_44 k91 Q n l0 l1 l2 l3 l4 σ := by
  intro n
  induction n with
  | zero => intro l0 l1 l2 l3 l4 σ i; exact trivial
  | succ n ih =>
    intro l0 l1 l2 l3 l4 σ i
    unfold vX11_runMills_44
    intro a2 e1
    intro e2
    intro a5 e3
    intro e4
    refine jfJx4a65c_size_8abf5 (I := I) (fw_sub W (by decide)) ?_ _ _ i
    intro r8 σ7 iσ7
    refine ⟨?_, ?_⟩
    · intro e5
      exact hk91 _ _ _ iσ7
    · intro e6
      refine ⟨?_, ?_⟩
      · intro e7
        exact hk91 _ _ _ iσ7
      · intro e8
        intro a12 e9
        intro e10
        intro a15 e11
        intro e12
        refine jfJx4a65c_get_915e3 (I := I) (fw_sub W (by decide)) ?_ _ _ _ iσ7
        intro q18 σ17 iσ17
        intro a20 e13
        intro e14
        intro a23 e15
        intro e16
        refine jfX11_sawFor (I := I) (fw_sub W (by decide)) ?_ _ _ _ _ _ iσ17
        intro r26 σ25 iσ25
        intro v28 e17
        intro v29 e18
        exact ih _ _ _ _ _ _ iσ25
def vX11_runMills_2 (Q : kx_S → Prop) : Nat → Nat → Int32 → kx_S → Prop
  | 0, _, _, _ => True
  | n + 1, l0, l1, σ => xt σ l0 = 13 → ∀ a31, xr σ 208 l0 = some a31 → xt σ a31 = 1 → vJx4a65c_size_8abf5 a31 σ (fun r34 σ33 => ((r34 ≤ l1 → Q σ33) ∧ (¬ (r34 ≤ l1) → xt σ33 l0 = 13 → ∀ a38, xr σ33 208 l0 = some a38 → xt σ33 a38 = 1 → vJx4a65c_get_915e3 a38 l1 σ33 (fun q41 σ40 => ∀ a43, q41 = some a43 → xt σ40 a43 = 10 → ∀ q46, q46 = xr σ40 172 a43 → ((∀ a48, q46 = some a48 → ∀ j, vX11_runMills_44 (vX11_runMills_91 (vX11_runMills_2 Q n) Q) Q j l0 l1 (some a48) 3 0 σ40) ∧ (q46 = none → vX11_runMills_91 (vX11_runMills_2 Q n) Q l0 l1 σ40))))))
set_option maxRecDepth 100000 in
set_option maxHeartbeats 4000000 in
theorem jcX11_runMills_2 {Q Q' Q'' : kx_S → Prop} (hQ : ∀ y0, Q y0 → Q' y0 → Q'' y0) : ∀ (n : Nat) (l0 : Nat) (l1 : Int32) (σ : kx_S), wX11_runMills_2 Q n l0 l1 σ → vX11_runMills_2 Q' n l0 l1 σ → wX11_runMills_2 Q'' n l0 l1 σ := by
  intro n
  induction n with
  | zero => intro l0 l1 σ h; exact h.elim
  | succ n ih =>
    intro l0 l1 σ h v
    unfold wX11_runMills_2 at h
    unfold vX11_runMills_2 at v
    unfold wX11_runMills_2
    refine ⟨h.1, ?_⟩
    have v := v h.1
    have h := h.2
    obtain ⟨a31, e2, h⟩ := h
    refine ⟨a31, e2, ?_⟩
    have v := v a31 e2
    refine ⟨h.1, ?_⟩
    have v := v h.1
    have h := h.2
    refine jcJx4a65c_size_8abf5 ?_ _ _ h v
    intro r34 σ33 h v
    refine ⟨?_, ?_⟩
    · have h := h.1
      have v := v.1
      intro e4
      have h := h e4
      have v := v e4
      exact hQ _ h v
    · have h := h.2
      have v := v.2
      intro e5
      have h := h e5
      have v := v e5
      refine ⟨h.1, ?_⟩
      have v := v h.1
      have h := h.2
      obtain ⟨a38, e7, h⟩ := h
      refine ⟨a38, e7, ?_⟩
      have v := v a38 e7
      refine ⟨h.1, ?_⟩
      have v := v h.1
      have h := h.2
      refine jcJx4a65c_get_915e3 ?_ _ _ _ h v
      intro q41 σ40 h v
      obtain ⟨a43, e9, h⟩ := h
      refine ⟨a43, e9, ?_⟩
      have v := v a43 e9
      refine ⟨h.1, ?_⟩
      have v := v h.1
      have h := h.2
      intro q46 e11
      have h := h q46 e11
      have v := v q46 e11
      refine ⟨?_, ?_⟩
      · have h := h.1
        have v := v.1
        intro a48 e12
        have h := h a48 e12
        have v := v a48 e12
        obtain ⟨j, h⟩ := h
        refine ⟨j, ?_⟩
        have v := v j
        exact jcX11_runMills_44 (k91 := wX11_runMills_91 (wX11_runMills_2 Q n) Q) (k91' := vX11_runMills_91 (vX11_runMills_2 Q' n) Q') (k91'' := wX11_runMills_91 (wX11_runMills_2 Q'' n) Q'') (fun _ _ _ h v => jcX11_runMills_91 (k2 := wX11_runMills_2 Q n) (k2' := vX11_runMills_2 Q' n) (k2'' := wX11_runMills_2 Q'' n) (fun _ _ _ h v => ih _ _ _ h v) hQ _ _ _ h v) hQ _ _ _ _ _ _ _ h v
      · have h := h.2
        have v := v.2
        intro e13
        have h := h e13
        have v := v e13
        exact jcX11_runMills_91 (k2 := wX11_runMills_2 Q n) (k2' := vX11_runMills_2 Q' n) (k2'' := wX11_runMills_2 Q'' n) (fun _ _ _ h v => ih _ _ _ h v) hQ _ _ _ h v
set_option maxRecDepth 100000 in
set_option maxHeartbeats 4000000 in
theorem jaX11_runMills_2 {Q Q' : kx_S → Prop} (hQ : ∀ y0, Q y0 → Q' y0) : ∀ (n m : Nat) (l0 : Nat) (l1 : Int32) (σ : kx_S), wX11_runMills_2 Q n l0 l1 σ → vX11_runMills_2 Q' m l0 l1 σ := by
  intro n
  induction n with
  | zero => intro m l0 l1 σ h; exact h.elim
  | succ n ih =>
    intro m l0 l1 σ h
    cases m with
    | zero => exact trivial
    | succ m =>
      unfold wX11_runMills_2 at h
      unfold vX11_runMills_2
      intro e1
      have h := h.2
      obtain ⟨a31', e2, h⟩ := h
      intro a31 e3
      have x9 : a31' = a31 := Option.some.inj (e2.symm.trans e3)
      rw [x9] at h
      intro e4
      have h := h.2
      refine jaJx4a65c_size_8abf5 ?_ _ _ h
      intro r34 σ33 h
      refine ⟨?_, ?_⟩
      · have h := h.1
        intro e5
        have h := h e5
        exact hQ _ h
      · have h := h.2
        intro e6
        have h := h e6
        intro e7
        have h := h.2
        obtain ⟨a38', e8, h⟩ := h
        intro a38 e9
        have x9 : a38' = a38 := Option.some.inj (e8.symm.trans e9)
        rw [x9] at h
        intro e10
        have h := h.2
        refine jaJx4a65c_get_915e3 ?_ _ _ _ h
        intro q41 σ40 h
        obtain ⟨a43', e11, h⟩ := h
        intro a43 e12
        have x9 : a43' = a43 := Option.some.inj (e11.symm.trans e12)
        rw [x9] at h
        intro e13
        have h := h.2
        intro q46 e14
        have h := h q46 e14
        refine ⟨?_, ?_⟩
        · have h := h.1
          intro a48 e15
          have h := h a48 e15
          obtain ⟨j, h⟩ := h
          intro j9
          exact jaX11_runMills_44 (k91 := wX11_runMills_91 (wX11_runMills_2 Q n) Q) (k91' := vX11_runMills_91 (vX11_runMills_2 Q' m) Q') (fun _ _ _ h => jaX11_runMills_91 (k2 := wX11_runMills_2 Q n) (k2' := vX11_runMills_2 Q' m) (fun _ _ _ h => ih m _ _ _ h) hQ _ _ _ h) hQ _ j9 _ _ _ _ _ _ h
        · have h := h.2
          intro e16
          have h := h e16
          exact jaX11_runMills_91 (k2 := wX11_runMills_2 Q n) (k2' := vX11_runMills_2 Q' m) (fun _ _ _ h => ih m _ _ _ h) hQ _ _ _ h
set_option maxRecDepth 100000 in
set_option maxHeartbeats 4000000 in
theorem jfX11_runMills_2 {I : kx_S → Prop} (W : fw_ I [16, 18, 132, 136, 146, 218, 1003]) {Q : kx_S → Prop} (hQ : ∀ y0, I y0 → Q y0) : ∀ (n : Nat) (l0 : Nat) (l1 : Int32) (σ : kx_S), I σ → vX11_runMills_2 Q n l0 l1 σ := by
  intro n
  induction n with
  | zero => intro l0 l1 σ i; exact trivial
  | succ n ih =>
    intro l0 l1 σ i
    unfold vX11_runMills_2
    intro e1
    intro a31 e2
    intro e3
    refine jfJx4a65c_size_8abf5 (I := I) (fw_sub W (by decide)) ?_ _ _ i
    intro r34 σ33 iσ33
    refine ⟨?_, ?_⟩
    · intro e4
      exact hQ _ iσ33
    · intro e5
      intro e6
      intro a38 e7
      intro e8
      refine jfJx4a65c_get_915e3 (I := I) (fw_sub W (by decide)) ?_ _ _ _ iσ33
      intro q41 σ40 iσ40
      intro a43 e9
      intro e10
      intro q46 e11
      refine ⟨?_, ?_⟩
      · intro a48 e12
        intro j
        exact jfX11_runMills_44 (I := I) (fw_sub W (by decide)) (k91 := vX11_runMills_91 (vX11_runMills_2 Q n) Q) (fun _ _ _ i => jfX11_runMills_91 (I := I) (fw_sub W (by decide)) (k2 := vX11_runMills_2 Q n) (fun _ _ _ i => ih _ _ _ i) hQ _ _ _ i) hQ _ _ _ _ _ _ _ iσ40
      · intro e13
        exact jfX11_runMills_91 (I := I) (fw_sub W (by decide)) (k2 := vX11_runMills_2 Q n) (fun _ _ _ i => ih _ _ _ i) hQ _ _ _ iσ40
def vX11_runMills (l0 : Nat) (σ : kx_S) (Q : kx_S → Prop) : Prop := ∀ j, vX11_runMills_2 Q j l0 0 σ
set_option maxRecDepth 100000 in
set_option maxHeartbeats 4000000 in
theorem jcX11_runMills {Q Q' Q'' : kx_S → Prop} (hQ : ∀ y0, Q y0 → Q' y0 → Q'' y0) : ∀ (l0 : Nat) (σ : kx_S), wX11_runMills l0 σ Q → vX11_runMills l0 σ Q' → wX11_runMills l0 σ Q'' := by
  intro l0 σ h v
  unfold wX11_runMills at h
  unfold vX11_runMills at v
  unfold wX11_runMills
  obtain ⟨j, h⟩ := h
  refine ⟨j, ?_⟩
  have v := v j
  exact jcX11_runMills_2 hQ _ _ _ _ h v
set_option maxRecDepth 100000 in
set_option maxHeartbeats 4000000 in
theorem jaX11_runMills {Q Q' : kx_S → Prop} (hQ : ∀ y0, Q y0 → Q' y0) : ∀ (l0 : Nat) (σ : kx_S), wX11_runMills l0 σ Q → vX11_runMills l0 σ Q' := by
  intro l0 σ h
  unfold wX11_runMills at h
  unfold vX11_runMills
  obtain ⟨j, h⟩ := h
  intro j9
  exact jaX11_runMills_2 hQ _ j9 _ _ _ h
set_option maxRecDepth 100000 in
set_option maxHeartbeats 4000000 in
theorem jfX11_runMills {I : kx_S → Prop} (W : fw_ I [16, 18, 132, 136, 146, 218, 1003]) {Q : kx_S → Prop} (hQ : ∀ y0, I y0 → Q y0) : ∀ (l0 : Nat) (σ : kx_S), I σ → vX11_runMills l0 σ Q := by
  intro l0 σ i
  unfold vX11_runMills
  intro j
  exact jfX11_runMills_2 (I := I) (fw_sub W (by decide)) hQ _ _ _ _ i
def vX11_hours_84 (Q : Int32 → kx_S → Prop) (QX : String → kx_S → Prop) (l0 : Nat) (σ : kx_S) : Prop := xt σ l0 = 13 → Q (xi σ 217 l0) σ
set_option maxRecDepth 100000 in
set_option maxHeartbeats 4000000 in
theorem jcX11_hours_84 {Q Q' Q'' : Int32 → kx_S → Prop} (hQ : ∀ y0 y1, Q y0 y1 → Q' y0 y1 → Q'' y0 y1) {QX QX' QX'' : String → kx_S → Prop} (hX : ∀ y0 y1, QX y0 y1 → QX' y0 y1 → QX'' y0 y1) : ∀ (l0 : Nat) (σ : kx_S), wX11_hours_84 Q QX l0 σ → vX11_hours_84 Q' QX' l0 σ → wX11_hours_84 Q'' QX'' l0 σ := by
  intro l0 σ h v
  unfold wX11_hours_84 at h
  unfold vX11_hours_84 at v
  unfold wX11_hours_84
  refine ⟨h.1, ?_⟩
  have v := v h.1
  have h := h.2
  exact hQ _ _ h v
set_option maxRecDepth 100000 in
set_option maxHeartbeats 4000000 in
theorem jaX11_hours_84 {Q Q' : Int32 → kx_S → Prop} (hQ : ∀ y0 y1, Q y0 y1 → Q' y0 y1) {QX QX' : String → kx_S → Prop} (hX : ∀ y0 y1, QX y0 y1 → QX' y0 y1) : ∀ (l0 : Nat) (σ : kx_S), wX11_hours_84 Q QX l0 σ → vX11_hours_84 Q' QX' l0 σ := by
  intro l0 σ h
  unfold wX11_hours_84 at h
  unfold vX11_hours_84
  intro e1
  have h := h.2
  exact hQ _ _ h
set_option maxRecDepth 100000 in
set_option maxHeartbeats 4000000 in
theorem jfX11_hours_84 {I : kx_S → Prop} (W : fw_ I []) {Q : Int32 → kx_S → Prop} (hQ : ∀ y0 y1, I y1 → Q y0 y1) {QX : String → kx_S → Prop} (hX : ∀ y0 y1, I y1 → QX y0 y1) : ∀ (l0 : Nat) (σ : kx_S), I σ → vX11_hours_84 Q QX l0 σ := by
  intro l0 σ i
  unfold vX11_hours_84
  intro e1
  exact hQ _ _ i
def vX11_hours_23 (Q : Int32 → kx_S → Prop) (QX : String → kx_S → Prop) (σ : kx_S) : Prop := xc σ < kx_N → QX pz_I (xbump σ)
set_option maxRecDepth 100000 in
set_option maxHeartbeats 4000000 in
theorem jcX11_hours_23 {Q Q' Q'' : Int32 → kx_S → Prop} (hQ : ∀ y0 y1, Q y0 y1 → Q' y0 y1 → Q'' y0 y1) {QX QX' QX'' : String → kx_S → Prop} (hX : ∀ y0 y1, QX y0 y1 → QX' y0 y1 → QX'' y0 y1) : ∀ (σ : kx_S), wX11_hours_23 Q QX σ → vX11_hours_23 Q' QX' σ → wX11_hours_23 Q'' QX'' σ := by
  intro σ h v
  unfold wX11_hours_23 at h
  unfold vX11_hours_23 at v
  unfold wX11_hours_23
  refine ⟨h.1, ?_⟩
  have v := v h.1
  have h := h.2
  exact hX _ _ h v
set_option maxRecDepth 100000 in
set_option maxHeartbeats 4000000 in
theorem jaX11_hours_23 {Q Q' : Int32 → kx_S → Prop} (hQ : ∀ y0 y1, Q y0 y1 → Q' y0 y1) {QX QX' : String → kx_S → Prop} (hX : ∀ y0 y1, QX y0 y1 → QX' y0 y1) : ∀ (σ : kx_S), wX11_hours_23 Q QX σ → vX11_hours_23 Q' QX' σ := by
  intro σ h
  unfold wX11_hours_23 at h
  unfold vX11_hours_23
  intro e1
  have h := h.2
  exact hX _ _ h
set_option maxRecDepth 100000 in
set_option maxHeartbeats 4000000 in
theorem jfX11_hours_23 {I : kx_S → Prop} (W : fw_ I [1005]) {Q : Int32 → kx_S → Prop} (hQ : ∀ y0 y1, I y1 → Q y0 y1) {QX : String → kx_S → Prop} (hX : ∀ y0 y1, I y1 → QX y0 y1) : ∀ (σ : kx_S), I σ → vX11_hours_23 Q QX σ := by
  intro σ i
  unfold vX11_hours_23
  intro e1
  exact hX _ _ ((W _ i).2.2.2.2.2.1 (by decide))
def vX11_hours_35 (k84 : Nat → kx_S → Prop) (Q : Int32 → kx_S → Prop) (QX : String → kx_S → Prop) : Nat → Nat → Int32 → Int32 → kx_S → Prop
  | 0, _, _, _, _ => True
  | n + 1, l0, l1, l2, σ => ((l1 ≤ l2 → k84 l0 σ) ∧ (¬ (l1 ≤ l2) → xt σ l0 = 13 → vX11_runWater l0 σ (fun σ4 => xt σ4 l0 = 13 → vX11_moveLogs l0 σ4 (fun σ6 => xt σ6 l0 = 13 → vX11_jamCells l0 σ6 (fun σ8 => xt σ8 l0 = 13 → vX11_freeJams l0 σ8 (fun σ10 => xt σ10 l0 = 13 → vX11_makeJamsKnown l0 σ10 (fun σ12 => xt σ12 l0 = 13 → vX11_ageLogs l0 σ12 (fun σ14 => xt σ14 l0 = 13 → vX11_runMills l0 σ14 (fun σ16 => xt σ16 l0 = 13 → ∀ σ19, σ19 = xsi σ16 217 l0 ((xi σ16 217 l0) + 1) → ∀ v21 : Int32, v21 = l2 + 1 → vX11_hours_35 k84 Q QX n l0 l1 v21 σ19)))))))))
set_option maxRecDepth 100000 in
set_option maxHeartbeats 4000000 in
theorem jcX11_hours_35 {k84 k84' k84'' : Nat → kx_S → Prop} (hk84 : ∀ y0 y1, k84 y0 y1 → k84' y0 y1 → k84'' y0 y1) {Q Q' Q'' : Int32 → kx_S → Prop} (hQ : ∀ y0 y1, Q y0 y1 → Q' y0 y1 → Q'' y0 y1) {QX QX' QX'' : String → kx_S → Prop} (hX : ∀ y0 y1, QX y0 y1 → QX' y0 y1 → QX'' y0 y1) : ∀ (n : Nat) (l0 : Nat) (l1 : Int32) (l2 : Int32) (σ : kx_S), wX11_hours_35 k84 Q QX n l0 l1 l2 σ → vX11_hours_35 k84' Q' QX' n l0 l1 l2 σ → wX11_hours_35 k84'' Q'' QX'' n l0 l1 l2 σ := by
  intro n
  induction n with
  | zero => intro l0 l1 l2 σ h; exact h.elim
  | succ n ih =>
    intro l0 l1 l2 σ h v
    unfold wX11_hours_35 at h
    unfold vX11_hours_35 at v
    unfold wX11_hours_35
    refine ⟨?_, ?_⟩
    · have h := h.1
      have v := v.1
      intro e1
      have h := h e1
      have v := v e1
      exact hk84 _ _ h v
    · have h := h.2
      have v := v.2
      intro e2
      have h := h e2
      have v := v e2
      refine ⟨h.1, ?_⟩
      have v := v h.1
      have h := h.2
      refine jcX11_runWater ?_ _ _ h v
      intro σ4 h v
      refine ⟨h.1, ?_⟩
      have v := v h.1
      have h := h.2
      refine jcX11_moveLogs ?_ _ _ h v
      intro σ6 h v
      refine ⟨h.1, ?_⟩
      have v := v h.1
      have h := h.2
      refine jcX11_jamCells ?_ _ _ h v
      intro σ8 h v
      refine ⟨h.1, ?_⟩
      have v := v h.1
      have h := h.2
      refine jcX11_freeJams ?_ _ _ h v
      intro σ10 h v
      refine ⟨h.1, ?_⟩
      have v := v h.1
      have h := h.2
      refine jcX11_makeJamsKnown ?_ _ _ h v
      intro σ12 h v
      refine ⟨h.1, ?_⟩
      have v := v h.1
      have h := h.2
      refine jcX11_ageLogs ?_ _ _ h v
      intro σ14 h v
      refine ⟨h.1, ?_⟩
      have v := v h.1
      have h := h.2
      refine jcX11_runMills ?_ _ _ h v
      intro σ16 h v
      refine ⟨h.1, ?_⟩
      have v := v h.1
      have h := h.2
      intro σ19 e11
      have h := h σ19 e11
      have v := v σ19 e11
      intro v21 e12
      have h := h v21 e12
      have v := v v21 e12
      exact ih _ _ _ _ h v
set_option maxRecDepth 100000 in
set_option maxHeartbeats 4000000 in
theorem jaX11_hours_35 {k84 k84' : Nat → kx_S → Prop} (hk84 : ∀ y0 y1, k84 y0 y1 → k84' y0 y1) {Q Q' : Int32 → kx_S → Prop} (hQ : ∀ y0 y1, Q y0 y1 → Q' y0 y1) {QX QX' : String → kx_S → Prop} (hX : ∀ y0 y1, QX y0 y1 → QX' y0 y1) : ∀ (n m : Nat) (l0 : Nat) (l1 : Int32) (l2 : Int32) (σ : kx_S), wX11_hours_35 k84 Q QX n l0 l1 l2 σ → vX11_hours_35 k84' Q' QX' m l0 l1 l2 σ := by
  intro n
  induction n with
  | zero => intro m l0 l1 l2 σ h; exact h.elim
  | succ n ih =>
    intro m l0 l1 l2 σ h
    cases m with
    | zero => exact trivial
    | succ m =>
      unfold wX11_hours_35 at h
      unfold vX11_hours_35
      refine ⟨?_, ?_⟩
      · have h := h.1
        intro e1
        have h := h e1
        exact hk84 _ _ h
      · have h := h.2
        intro e2
        have h := h e2
        intro e3
        have h := h.2
        refine jaX11_runWater ?_ _ _ h
        intro σ4 h
        intro e4
        have h := h.2
        refine jaX11_moveLogs ?_ _ _ h
        intro σ6 h
        intro e5
        have h := h.2
        refine jaX11_jamCells ?_ _ _ h
        intro σ8 h
        intro e6
        have h := h.2
        refine jaX11_freeJams ?_ _ _ h
        intro σ10 h
        intro e7
        have h := h.2
        refine jaX11_makeJamsKnown ?_ _ _ h
        intro σ12 h
        intro e8
        have h := h.2
        refine jaX11_ageLogs ?_ _ _ h
        intro σ14 h
        intro e9
        have h := h.2
        refine jaX11_runMills ?_ _ _ h
        intro σ16 h
        intro e10
        have h := h.2
        intro σ19 e11
        have h := h σ19 e11
        intro v21 e12
        have h := h v21 e12
        exact ih m _ _ _ _ h
set_option maxRecDepth 100000 in
set_option maxHeartbeats 4000000 in
theorem jfX11_hours_35 {I : kx_S → Prop} (W : fw_ I [16, 17, 18, 50, 51, 65, 82, 83, 84, 132, 133, 134, 135, 136, 146, 167, 169, 170, 217, 218, 220, 221, 1001, 1002, 1003, 1222]) {k84 : Nat → kx_S → Prop} (hk84 : ∀ y0 y1, I y1 → k84 y0 y1) {Q : Int32 → kx_S → Prop} (hQ : ∀ y0 y1, I y1 → Q y0 y1) {QX : String → kx_S → Prop} (hX : ∀ y0 y1, I y1 → QX y0 y1) : ∀ (n : Nat) (l0 : Nat) (l1 : Int32) (l2 : Int32) (σ : kx_S), I σ → vX11_hours_35 k84 Q QX n l0 l1 l2 σ := by
  intro n
  induction n with
  | zero => intro l0 l1 l2 σ i; exact trivial
  | succ n ih =>
    intro l0 l1 l2 σ i
    unfold vX11_hours_35
    refine ⟨?_, ?_⟩
    · intro e1
      exact hk84 _ _ i
    · intro e2
      intro e3
      refine jfX11_runWater (I := I) (fw_sub W (by decide)) ?_ _ _ i
      intro σ4 iσ4
      intro e4
      refine jfX11_moveLogs (I := I) (fw_sub W (by decide)) ?_ _ _ iσ4
      intro σ6 iσ6
      intro e5
      refine jfX11_jamCells (I := I) (fw_sub W (by decide)) ?_ _ _ iσ6
      intro σ8 iσ8
      intro e6
      refine jfX11_freeJams (I := I) (fw_sub W (by decide)) ?_ _ _ iσ8
      intro σ10 iσ10
      intro e7
      refine jfX11_makeJamsKnown (I := I) (fw_sub W (by decide)) ?_ _ _ iσ10
      intro σ12 iσ12
      intro e8
      refine jfX11_ageLogs (I := I) (fw_sub W (by decide)) ?_ _ _ iσ12
      intro σ14 iσ14
      intro e9
      refine jfX11_runMills (I := I) (fw_sub W (by decide)) ?_ _ _ iσ14
      intro σ16 iσ16
      intro e10
      intro σ19 e11
      have iσ19 : I σ19 := by rw [e11]; exact ((W _ iσ16).1 217 (by decide)).1 _ _
      intro v21 e12
      exact ih _ _ _ _ iσ19
def vX11_hours (l0 : Nat) (l1 : Int32) (σ : kx_S) (Q : Int32 → kx_S → Prop) (QX : String → kx_S → Prop) : Prop := vX11_isWithin l1 0 200 σ (fun r23 σ22 => ((r23 = 0 → vX11_hours_23 Q QX σ22) ∧ (¬ (r23 = 0) → xt σ22 l0 = 13 → ((((xi σ22 217 l0) + l1) ≤ 20000 → ∀ j, vX11_hours_35 (vX11_hours_84 Q QX) Q QX j l0 l1 0 σ22) ∧ (¬ (((xi σ22 217 l0) + l1) ≤ 20000) → vX11_hours_23 Q QX σ22)))))
set_option maxRecDepth 100000 in
set_option maxHeartbeats 4000000 in
theorem jcX11_hours {Q Q' Q'' : Int32 → kx_S → Prop} (hQ : ∀ y0 y1, Q y0 y1 → Q' y0 y1 → Q'' y0 y1) {QX QX' QX'' : String → kx_S → Prop} (hX : ∀ y0 y1, QX y0 y1 → QX' y0 y1 → QX'' y0 y1) : ∀ (l0 : Nat) (l1 : Int32) (σ : kx_S), wX11_hours l0 l1 σ Q QX → vX11_hours l0 l1 σ Q' QX' → wX11_hours l0 l1 σ Q'' QX'' := by
  intro l0 l1 σ h v
  unfold wX11_hours at h
  unfold vX11_hours at v
  unfold wX11_hours
  refine jcX11_isWithin ?_ _ _ _ _ h v
  intro r23 σ22 h v
  refine ⟨?_, ?_⟩
  · have h := h.1
    have v := v.1
    intro e1
    have h := h e1
    have v := v e1
    exact jcX11_hours_23 hQ hX _ h v
  · have h := h.2
    have v := v.2
    intro e2
    have h := h e2
    have v := v e2
    refine ⟨h.1, ?_⟩
    have v := v h.1
    have h := h.2
    refine ⟨?_, ?_⟩
    · have h := h.1
      have v := v.1
      intro e4
      have h := h e4
      have v := v e4
      obtain ⟨j, h⟩ := h
      refine ⟨j, ?_⟩
      have v := v j
      exact jcX11_hours_35 (k84 := wX11_hours_84 Q QX) (k84' := vX11_hours_84 Q' QX') (k84'' := wX11_hours_84 Q'' QX'') (fun _ _ h v => jcX11_hours_84 hQ hX _ _ h v) hQ hX _ _ _ _ _ h v
    · have h := h.2
      have v := v.2
      intro e5
      have h := h e5
      have v := v e5
      exact jcX11_hours_23 hQ hX _ h v
set_option maxRecDepth 100000 in
set_option maxHeartbeats 4000000 in
theorem jaX11_hours {Q Q' : Int32 → kx_S → Prop} (hQ : ∀ y0 y1, Q y0 y1 → Q' y0 y1) {QX QX' : String → kx_S → Prop} (hX : ∀ y0 y1, QX y0 y1 → QX' y0 y1) : ∀ (l0 : Nat) (l1 : Int32) (σ : kx_S), wX11_hours l0 l1 σ Q QX → vX11_hours l0 l1 σ Q' QX' := by
  intro l0 l1 σ h
  unfold wX11_hours at h
  unfold vX11_hours
  refine jaX11_isWithin ?_ _ _ _ _ h
  intro r23 σ22 h
  refine ⟨?_, ?_⟩
  · have h := h.1
    intro e1
    have h := h e1
    exact jaX11_hours_23 hQ hX _ h
  · have h := h.2
    intro e2
    have h := h e2
    intro e3
    have h := h.2
    refine ⟨?_, ?_⟩
    · have h := h.1
      intro e4
      have h := h e4
      obtain ⟨j, h⟩ := h
      intro j9
      exact jaX11_hours_35 (k84 := wX11_hours_84 Q QX) (k84' := vX11_hours_84 Q' QX') (fun _ _ h => jaX11_hours_84 hQ hX _ _ h) hQ hX _ j9 _ _ _ _ h
    · have h := h.2
      intro e5
      have h := h e5
      exact jaX11_hours_23 hQ hX _ h
set_option maxRecDepth 100000 in
set_option maxHeartbeats 4000000 in
theorem jfX11_hours {I : kx_S → Prop} (W : fw_ I [16, 17, 18, 50, 51, 65, 82, 83, 84, 132, 133, 134, 135, 136, 146, 167, 169, 170, 217, 218, 220, 221, 1001, 1002, 1003, 1005, 1222]) {Q : Int32 → kx_S → Prop} (hQ : ∀ y0 y1, I y1 → Q y0 y1) {QX : String → kx_S → Prop} (hX : ∀ y0 y1, I y1 → QX y0 y1) : ∀ (l0 : Nat) (l1 : Int32) (σ : kx_S), I σ → vX11_hours l0 l1 σ Q QX := by
  intro l0 l1 σ i
  unfold vX11_hours
  refine jfX11_isWithin (I := I) (fw_sub W (by decide)) ?_ _ _ _ _ i
  intro r23 σ22 iσ22
  refine ⟨?_, ?_⟩
  · intro e1
    exact jfX11_hours_23 (I := I) (fw_sub W (by decide)) hQ hX _ iσ22
  · intro e2
    intro e3
    refine ⟨?_, ?_⟩
    · intro e4
      intro j
      exact jfX11_hours_35 (I := I) (fw_sub W (by decide)) (k84 := vX11_hours_84 Q QX) (fun _ _ i => jfX11_hours_84 (I := I) (fw_sub W (by decide)) hQ hX _ _ i) hQ hX _ _ _ _ _ iσ22
    · intro e5
      exact jfX11_hours_23 (I := I) (fw_sub W (by decide)) hQ hX _ iσ22
def vX11_wants (l0 : Nat) (l1 : Int32) (σ : kx_S) (Q : Int32 → kx_S → Prop) (QX : String → kx_S → Prop) : Prop := xt σ l0 = 13 → ∀ a2, xr σ 212 l0 = some a2 → xt σ a2 = 1 → vJx4a65c_size_8abf5 a2 σ (fun r5 σ4 => vX11_isWithin l1 0 (r5 - 1) σ4 (fun r8 σ7 => ((¬ r8 = 0 → xt σ7 l0 = 13 → ∀ a11, xr σ7 212 l0 = some a11 → xt σ7 a11 = 1 → vJx4a65c_get_915e3 a11 l1 σ7 (fun q14 σ13 => ∀ a16, q14 = some a16 → xt σ13 a16 = 9 → Q (xi σ13 146 a16) σ13)) ∧ (r8 = 0 → xc σ7 < kx_N → QX pz_N (xbump σ7)))))
set_option maxRecDepth 100000 in
set_option maxHeartbeats 4000000 in
theorem jcX11_wants {Q Q' Q'' : Int32 → kx_S → Prop} (hQ : ∀ y0 y1, Q y0 y1 → Q' y0 y1 → Q'' y0 y1) {QX QX' QX'' : String → kx_S → Prop} (hX : ∀ y0 y1, QX y0 y1 → QX' y0 y1 → QX'' y0 y1) : ∀ (l0 : Nat) (l1 : Int32) (σ : kx_S), wX11_wants l0 l1 σ Q QX → vX11_wants l0 l1 σ Q' QX' → wX11_wants l0 l1 σ Q'' QX'' := by
  intro l0 l1 σ h v
  unfold wX11_wants at h
  unfold vX11_wants at v
  unfold wX11_wants
  refine ⟨h.1, ?_⟩
  have v := v h.1
  have h := h.2
  obtain ⟨a2, e2, h⟩ := h
  refine ⟨a2, e2, ?_⟩
  have v := v a2 e2
  refine ⟨h.1, ?_⟩
  have v := v h.1
  have h := h.2
  refine jcJx4a65c_size_8abf5 ?_ _ _ h v
  intro r5 σ4 h v
  refine jcX11_isWithin ?_ _ _ _ _ h v
  intro r8 σ7 h v
  refine ⟨?_, ?_⟩
  · have h := h.1
    have v := v.1
    intro e4
    have h := h e4
    have v := v e4
    refine ⟨h.1, ?_⟩
    have v := v h.1
    have h := h.2
    obtain ⟨a11, e6, h⟩ := h
    refine ⟨a11, e6, ?_⟩
    have v := v a11 e6
    refine ⟨h.1, ?_⟩
    have v := v h.1
    have h := h.2
    refine jcJx4a65c_get_915e3 ?_ _ _ _ h v
    intro q14 σ13 h v
    obtain ⟨a16, e8, h⟩ := h
    refine ⟨a16, e8, ?_⟩
    have v := v a16 e8
    refine ⟨h.1, ?_⟩
    have v := v h.1
    have h := h.2
    exact hQ _ _ h v
  · have h := h.2
    have v := v.2
    intro e10
    have h := h e10
    have v := v e10
    refine ⟨h.1, ?_⟩
    have v := v h.1
    have h := h.2
    exact hX _ _ h v
set_option maxRecDepth 100000 in
set_option maxHeartbeats 4000000 in
theorem jaX11_wants {Q Q' : Int32 → kx_S → Prop} (hQ : ∀ y0 y1, Q y0 y1 → Q' y0 y1) {QX QX' : String → kx_S → Prop} (hX : ∀ y0 y1, QX y0 y1 → QX' y0 y1) : ∀ (l0 : Nat) (l1 : Int32) (σ : kx_S), wX11_wants l0 l1 σ Q QX → vX11_wants l0 l1 σ Q' QX' := by
  intro l0 l1 σ h
  unfold wX11_wants at h
  unfold vX11_wants
  intro e1
  have h := h.2
  obtain ⟨a2', e2, h⟩ := h
  intro a2 e3
  have x9 : a2' = a2 := Option.some.inj (e2.symm.trans e3)
  rw [x9] at h
  intro e4
  have h := h.2
  refine jaJx4a65c_size_8abf5 ?_ _ _ h
  intro r5 σ4 h
  refine jaX11_isWithin ?_ _ _ _ _ h
  intro r8 σ7 h
  refine ⟨?_, ?_⟩
  · have h := h.1
    intro e5
    have h := h e5
    intro e6
    have h := h.2
    obtain ⟨a11', e7, h⟩ := h
    intro a11 e8
    have x9 : a11' = a11 := Option.some.inj (e7.symm.trans e8)
    rw [x9] at h
    intro e9
    have h := h.2
    refine jaJx4a65c_get_915e3 ?_ _ _ _ h
    intro q14 σ13 h
    obtain ⟨a16', e10, h⟩ := h
    intro a16 e11
    have x9 : a16' = a16 := Option.some.inj (e10.symm.trans e11)
    rw [x9] at h
    intro e12
    have h := h.2
    exact hQ _ _ h
  · have h := h.2
    intro e13
    have h := h e13
    intro e14
    have h := h.2
    exact hX _ _ h
set_option maxRecDepth 100000 in
set_option maxHeartbeats 4000000 in
theorem jfX11_wants {I : kx_S → Prop} (W : fw_ I [1005]) {Q : Int32 → kx_S → Prop} (hQ : ∀ y0 y1, I y1 → Q y0 y1) {QX : String → kx_S → Prop} (hX : ∀ y0 y1, I y1 → QX y0 y1) : ∀ (l0 : Nat) (l1 : Int32) (σ : kx_S), I σ → vX11_wants l0 l1 σ Q QX := by
  intro l0 l1 σ i
  unfold vX11_wants
  intro e1
  intro a2 e2
  intro e3
  refine jfJx4a65c_size_8abf5 (I := I) (fw_sub W (by decide)) ?_ _ _ i
  intro r5 σ4 iσ4
  refine jfX11_isWithin (I := I) (fw_sub W (by decide)) ?_ _ _ _ _ iσ4
  intro r8 σ7 iσ7
  refine ⟨?_, ?_⟩
  · intro e4
    intro e5
    intro a11 e6
    intro e7
    refine jfJx4a65c_get_915e3 (I := I) (fw_sub W (by decide)) ?_ _ _ _ iσ7
    intro q14 σ13 iσ13
    intro a16 e8
    intro e9
    exact hQ _ _ iσ13
  · intro e10
    intro e11
    exact hX _ _ ((W _ iσ7).2.2.2.2.2.1 (by decide))
def vX11_log (l0 : Nat) (l1 : Int32) (l2 : Int32) (σ : kx_S) (Q : Int32 → kx_S → Prop) (QX : String → kx_S → Prop) : Prop := xt σ l0 = 13 → vX11_logAt l0 l1 σ (fun b2 σ1 => ∀ v4, v4 = l2 → ((v4 = 0 → xt σ1 b2 = 8 → Q (xi σ1 129 b2) σ1) ∧ ((v4 = 1 → xt σ1 b2 = 8 → Q (xi σ1 130 b2) σ1) ∧ ((v4 = 2 → xt σ1 b2 = 8 → Q (xi σ1 131 b2) σ1) ∧ ((v4 = 3 → xt σ1 b2 = 8 → Q (xi σ1 132 b2) σ1) ∧ ((v4 = 4 → xt σ1 b2 = 8 → Q (xi σ1 133 b2) σ1) ∧ ((v4 = 5 → xt σ1 b2 = 8 → Q (xi σ1 134 b2) σ1) ∧ ((v4 = 6 → xt σ1 b2 = 8 → Q (xi σ1 135 b2) σ1) ∧ ((v4 = 7 → xt σ1 b2 = 8 → Q (xi σ1 136 b2) σ1) ∧ (¬ v4 = 0 → ¬ v4 = 1 → ¬ v4 = 2 → ¬ v4 = 3 → ¬ v4 = 4 → ¬ v4 = 5 → ¬ v4 = 6 → ¬ v4 = 7 → xc σ1 < kx_N → QX pz_N (xbump σ1))))))))))) QX
set_option maxRecDepth 100000 in
set_option maxHeartbeats 4000000 in
theorem jcX11_log {Q Q' Q'' : Int32 → kx_S → Prop} (hQ : ∀ y0 y1, Q y0 y1 → Q' y0 y1 → Q'' y0 y1) {QX QX' QX'' : String → kx_S → Prop} (hX : ∀ y0 y1, QX y0 y1 → QX' y0 y1 → QX'' y0 y1) : ∀ (l0 : Nat) (l1 : Int32) (l2 : Int32) (σ : kx_S), wX11_log l0 l1 l2 σ Q QX → vX11_log l0 l1 l2 σ Q' QX' → wX11_log l0 l1 l2 σ Q'' QX'' := by
  intro l0 l1 l2 σ h v
  unfold wX11_log at h
  unfold vX11_log at v
  unfold wX11_log
  refine ⟨h.1, ?_⟩
  have v := v h.1
  have h := h.2
  refine jcX11_logAt ?_ hX _ _ _ h v
  intro b2 σ1 h v
  intro v4 e2
  have h := h v4 e2
  have v := v v4 e2
  refine ⟨?_, ?_⟩
  · have h := h.1
    have v := v.1
    intro e3
    have h := h e3
    have v := v e3
    refine ⟨h.1, ?_⟩
    have v := v h.1
    have h := h.2
    exact hQ _ _ h v
  · have h := h.2
    have v := v.2
    refine ⟨?_, ?_⟩
    · have h := h.1
      have v := v.1
      intro e5
      have h := h e5
      have v := v e5
      refine ⟨h.1, ?_⟩
      have v := v h.1
      have h := h.2
      exact hQ _ _ h v
    · have h := h.2
      have v := v.2
      refine ⟨?_, ?_⟩
      · have h := h.1
        have v := v.1
        intro e7
        have h := h e7
        have v := v e7
        refine ⟨h.1, ?_⟩
        have v := v h.1
        have h := h.2
        exact hQ _ _ h v
      · have h := h.2
        have v := v.2
        refine ⟨?_, ?_⟩
        · have h := h.1
          have v := v.1
          intro e9
          have h := h e9
          have v := v e9
          refine ⟨h.1, ?_⟩
          have v := v h.1
          have h := h.2
          exact hQ _ _ h v
        · have h := h.2
          have v := v.2
          refine ⟨?_, ?_⟩
          · have h := h.1
            have v := v.1
            intro e11
            have h := h e11
            have v := v e11
            refine ⟨h.1, ?_⟩
            have v := v h.1
            have h := h.2
            exact hQ _ _ h v
          · have h := h.2
            have v := v.2
            refine ⟨?_, ?_⟩
            · have h := h.1
              have v := v.1
              intro e13
              have h := h e13
              have v := v e13
              refine ⟨h.1, ?_⟩
              have v := v h.1
              have h := h.2
              exact hQ _ _ h v
            · have h := h.2
              have v := v.2
              refine ⟨?_, ?_⟩
              · have h := h.1
                have v := v.1
                intro e15
                have h := h e15
                have v := v e15
                refine ⟨h.1, ?_⟩
                have v := v h.1
                have h := h.2
                exact hQ _ _ h v
              · have h := h.2
                have v := v.2
                refine ⟨?_, ?_⟩
                · have h := h.1
                  have v := v.1
                  intro e17
                  have h := h e17
                  have v := v e17
                  refine ⟨h.1, ?_⟩
                  have v := v h.1
                  have h := h.2
                  exact hQ _ _ h v
                · have h := h.2
                  have v := v.2
                  intro e19 e20 e21 e22 e23 e24 e25 e26
                  have h := h e19 e20 e21 e22 e23 e24 e25 e26
                  have v := v e19 e20 e21 e22 e23 e24 e25 e26
                  refine ⟨h.1, ?_⟩
                  have v := v h.1
                  have h := h.2
                  exact hX _ _ h v
set_option maxRecDepth 100000 in
set_option maxHeartbeats 4000000 in
theorem jaX11_log {Q Q' : Int32 → kx_S → Prop} (hQ : ∀ y0 y1, Q y0 y1 → Q' y0 y1) {QX QX' : String → kx_S → Prop} (hX : ∀ y0 y1, QX y0 y1 → QX' y0 y1) : ∀ (l0 : Nat) (l1 : Int32) (l2 : Int32) (σ : kx_S), wX11_log l0 l1 l2 σ Q QX → vX11_log l0 l1 l2 σ Q' QX' := by
  intro l0 l1 l2 σ h
  unfold wX11_log at h
  unfold vX11_log
  intro e1
  have h := h.2
  refine jaX11_logAt ?_ hX _ _ _ h
  intro b2 σ1 h
  intro v4 e2
  have h := h v4 e2
  refine ⟨?_, ?_⟩
  · have h := h.1
    intro e3
    have h := h e3
    intro e4
    have h := h.2
    exact hQ _ _ h
  · have h := h.2
    refine ⟨?_, ?_⟩
    · have h := h.1
      intro e5
      have h := h e5
      intro e6
      have h := h.2
      exact hQ _ _ h
    · have h := h.2
      refine ⟨?_, ?_⟩
      · have h := h.1
        intro e7
        have h := h e7
        intro e8
        have h := h.2
        exact hQ _ _ h
      · have h := h.2
        refine ⟨?_, ?_⟩
        · have h := h.1
          intro e9
          have h := h e9
          intro e10
          have h := h.2
          exact hQ _ _ h
        · have h := h.2
          refine ⟨?_, ?_⟩
          · have h := h.1
            intro e11
            have h := h e11
            intro e12
            have h := h.2
            exact hQ _ _ h
          · have h := h.2
            refine ⟨?_, ?_⟩
            · have h := h.1
              intro e13
              have h := h e13
              intro e14
              have h := h.2
              exact hQ _ _ h
            · have h := h.2
              refine ⟨?_, ?_⟩
              · have h := h.1
                intro e15
                have h := h e15
                intro e16
                have h := h.2
                exact hQ _ _ h
              · have h := h.2
                refine ⟨?_, ?_⟩
                · have h := h.1
                  intro e17
                  have h := h e17
                  intro e18
                  have h := h.2
                  exact hQ _ _ h
                · have h := h.2
                  intro e19 e20 e21 e22 e23 e24 e25 e26
                  have h := h e19 e20 e21 e22 e23 e24 e25 e26
                  intro e27
                  have h := h.2
                  exact hX _ _ h
set_option maxRecDepth 100000 in
set_option maxHeartbeats 4000000 in
theorem jfX11_log {I : kx_S → Prop} (W : fw_ I [1005]) {Q : Int32 → kx_S → Prop} (hQ : ∀ y0 y1, I y1 → Q y0 y1) {QX : String → kx_S → Prop} (hX : ∀ y0 y1, I y1 → QX y0 y1) : ∀ (l0 : Nat) (l1 : Int32) (l2 : Int32) (σ : kx_S), I σ → vX11_log l0 l1 l2 σ Q QX := by
  intro l0 l1 l2 σ i
  unfold vX11_log
  intro e1
  refine jfX11_logAt (I := I) (fw_sub W (by decide)) ?_ hX _ _ _ i
  intro b2 σ1 iσ1
  intro v4 e2
  refine ⟨?_, ?_⟩
  · intro e3
    intro e4
    exact hQ _ _ iσ1
  · refine ⟨?_, ?_⟩
    · intro e5
      intro e6
      exact hQ _ _ iσ1
    · refine ⟨?_, ?_⟩
      · intro e7
        intro e8
        exact hQ _ _ iσ1
      · refine ⟨?_, ?_⟩
        · intro e9
          intro e10
          exact hQ _ _ iσ1
        · refine ⟨?_, ?_⟩
          · intro e11
            intro e12
            exact hQ _ _ iσ1
          · refine ⟨?_, ?_⟩
            · intro e13
              intro e14
              exact hQ _ _ iσ1
            · refine ⟨?_, ?_⟩
              · intro e15
                intro e16
                exact hQ _ _ iσ1
              · refine ⟨?_, ?_⟩
                · intro e17
                  intro e18
                  exact hQ _ _ iσ1
                · intro e19 e20 e21 e22 e23 e24 e25 e26
                  intro e27
                  exact hX _ _ ((W _ iσ1).2.2.2.2.2.1 (by decide))
def vX11_cell (l0 : Nat) (l1 : Int32) (l2 : Int32) (l3 : Int32) (σ : kx_S) (Q : Int32 → kx_S → Prop) (QX : String → kx_S → Prop) : Prop := xt σ l0 = 13 → vX11_reachAt l0 l1 σ (fun b2 σ1 => vX11_checkCell b2 l2 σ1 (fun σ4 => xt σ4 b2 = 10 → ∀ a6, xr σ4 163 b2 = some a6 → xt σ4 a6 = 1 → vJx4a65c_get_915e3 a6 l2 σ4 (fun q9 σ8 => ∀ a11, q9 = some a11 → xt σ8 a11 = 3 → ∀ v14, v14 = l3 → ((v14 = 0 → ∀ a16, xr σ8 49 a11 = some a16 → xt σ8 a16 = 1 → vJx4a65c_size_8abf5 a16 σ8 (fun r19 σ18 => Q r19 σ18)) ∧ ((v14 = 1 → (((xi σ8 50 a11) = 0 → Q 0 σ8) ∧ (¬ ((xi σ8 50 a11) = 0) → Q 1 σ8))) ∧ ((v14 = 2 → (((xi σ8 51 a11) = 0 → Q 0 σ8) ∧ (¬ ((xi σ8 51 a11) = 0) → Q 1 σ8))) ∧ (¬ v14 = 0 → ¬ v14 = 1 → ¬ v14 = 2 → xc σ8 < kx_N → QX pz_N (xbump σ8))))))) QX) QX
set_option maxRecDepth 100000 in
set_option maxHeartbeats 4000000 in
theorem jcX11_cell {Q Q' Q'' : Int32 → kx_S → Prop} (hQ : ∀ y0 y1, Q y0 y1 → Q' y0 y1 → Q'' y0 y1) {QX QX' QX'' : String → kx_S → Prop} (hX : ∀ y0 y1, QX y0 y1 → QX' y0 y1 → QX'' y0 y1) : ∀ (l0 : Nat) (l1 : Int32) (l2 : Int32) (l3 : Int32) (σ : kx_S), wX11_cell l0 l1 l2 l3 σ Q QX → vX11_cell l0 l1 l2 l3 σ Q' QX' → wX11_cell l0 l1 l2 l3 σ Q'' QX'' := by
  intro l0 l1 l2 l3 σ h v
  unfold wX11_cell at h
  unfold vX11_cell at v
  unfold wX11_cell
  refine ⟨h.1, ?_⟩
  have v := v h.1
  have h := h.2
  refine jcX11_reachAt ?_ hX _ _ _ h v
  intro b2 σ1 h v
  refine jcX11_checkCell ?_ hX _ _ _ h v
  intro σ4 h v
  refine ⟨h.1, ?_⟩
  have v := v h.1
  have h := h.2
  obtain ⟨a6, e3, h⟩ := h
  refine ⟨a6, e3, ?_⟩
  have v := v a6 e3
  refine ⟨h.1, ?_⟩
  have v := v h.1
  have h := h.2
  refine jcJx4a65c_get_915e3 ?_ _ _ _ h v
  intro q9 σ8 h v
  obtain ⟨a11, e5, h⟩ := h
  refine ⟨a11, e5, ?_⟩
  have v := v a11 e5
  refine ⟨h.1, ?_⟩
  have v := v h.1
  have h := h.2
  intro v14 e7
  have h := h v14 e7
  have v := v v14 e7
  refine ⟨?_, ?_⟩
  · have h := h.1
    have v := v.1
    intro e8
    have h := h e8
    have v := v e8
    obtain ⟨a16, e9, h⟩ := h
    refine ⟨a16, e9, ?_⟩
    have v := v a16 e9
    refine ⟨h.1, ?_⟩
    have v := v h.1
    have h := h.2
    refine jcJx4a65c_size_8abf5 ?_ _ _ h v
    intro r19 σ18 h v
    exact hQ _ _ h v
  · have h := h.2
    have v := v.2
    refine ⟨?_, ?_⟩
    · have h := h.1
      have v := v.1
      intro e11
      have h := h e11
      have v := v e11
      refine ⟨?_, ?_⟩
      · have h := h.1
        have v := v.1
        intro e12
        have h := h e12
        have v := v e12
        exact hQ _ _ h v
      · have h := h.2
        have v := v.2
        intro e13
        have h := h e13
        have v := v e13
        exact hQ _ _ h v
    · have h := h.2
      have v := v.2
      refine ⟨?_, ?_⟩
      · have h := h.1
        have v := v.1
        intro e14
        have h := h e14
        have v := v e14
        refine ⟨?_, ?_⟩
        · have h := h.1
          have v := v.1
          intro e15
          have h := h e15
          have v := v e15
          exact hQ _ _ h v
        · have h := h.2
          have v := v.2
          intro e16
          have h := h e16
          have v := v e16
          exact hQ _ _ h v
      · have h := h.2
        have v := v.2
        intro e17 e18 e19
        have h := h e17 e18 e19
        have v := v e17 e18 e19
        refine ⟨h.1, ?_⟩
        have v := v h.1
        have h := h.2
        exact hX _ _ h v
set_option maxRecDepth 100000 in
set_option maxHeartbeats 4000000 in
theorem jaX11_cell {Q Q' : Int32 → kx_S → Prop} (hQ : ∀ y0 y1, Q y0 y1 → Q' y0 y1) {QX QX' : String → kx_S → Prop} (hX : ∀ y0 y1, QX y0 y1 → QX' y0 y1) : ∀ (l0 : Nat) (l1 : Int32) (l2 : Int32) (l3 : Int32) (σ : kx_S), wX11_cell l0 l1 l2 l3 σ Q QX → vX11_cell l0 l1 l2 l3 σ Q' QX' := by
  intro l0 l1 l2 l3 σ h
  unfold wX11_cell at h
  unfold vX11_cell
  intro e1
  have h := h.2
  refine jaX11_reachAt ?_ hX _ _ _ h
  intro b2 σ1 h
  refine jaX11_checkCell ?_ hX _ _ _ h
  intro σ4 h
  intro e2
  have h := h.2
  obtain ⟨a6', e3, h⟩ := h
  intro a6 e4
  have x9 : a6' = a6 := Option.some.inj (e3.symm.trans e4)
  rw [x9] at h
  intro e5
  have h := h.2
  refine jaJx4a65c_get_915e3 ?_ _ _ _ h
  intro q9 σ8 h
  obtain ⟨a11', e6, h⟩ := h
  intro a11 e7
  have x9 : a11' = a11 := Option.some.inj (e6.symm.trans e7)
  rw [x9] at h
  intro e8
  have h := h.2
  intro v14 e9
  have h := h v14 e9
  refine ⟨?_, ?_⟩
  · have h := h.1
    intro e10
    have h := h e10
    obtain ⟨a16', e11, h⟩ := h
    intro a16 e12
    have x9 : a16' = a16 := Option.some.inj (e11.symm.trans e12)
    rw [x9] at h
    intro e13
    have h := h.2
    refine jaJx4a65c_size_8abf5 ?_ _ _ h
    intro r19 σ18 h
    exact hQ _ _ h
  · have h := h.2
    refine ⟨?_, ?_⟩
    · have h := h.1
      intro e14
      have h := h e14
      refine ⟨?_, ?_⟩
      · have h := h.1
        intro e15
        have h := h e15
        exact hQ _ _ h
      · have h := h.2
        intro e16
        have h := h e16
        exact hQ _ _ h
    · have h := h.2
      refine ⟨?_, ?_⟩
      · have h := h.1
        intro e17
        have h := h e17
        refine ⟨?_, ?_⟩
        · have h := h.1
          intro e18
          have h := h e18
          exact hQ _ _ h
        · have h := h.2
          intro e19
          have h := h e19
          exact hQ _ _ h
      · have h := h.2
        intro e20 e21 e22
        have h := h e20 e21 e22
        intro e23
        have h := h.2
        exact hX _ _ h
set_option maxRecDepth 100000 in
set_option maxHeartbeats 4000000 in
theorem jfX11_cell {I : kx_S → Prop} (W : fw_ I [1005]) {Q : Int32 → kx_S → Prop} (hQ : ∀ y0 y1, I y1 → Q y0 y1) {QX : String → kx_S → Prop} (hX : ∀ y0 y1, I y1 → QX y0 y1) : ∀ (l0 : Nat) (l1 : Int32) (l2 : Int32) (l3 : Int32) (σ : kx_S), I σ → vX11_cell l0 l1 l2 l3 σ Q QX := by
  intro l0 l1 l2 l3 σ i
  unfold vX11_cell
  intro e1
  refine jfX11_reachAt (I := I) (fw_sub W (by decide)) ?_ hX _ _ _ i
  intro b2 σ1 iσ1
  refine jfX11_checkCell (I := I) (fw_sub W (by decide)) ?_ hX _ _ _ iσ1
  intro σ4 iσ4
  intro e2
  intro a6 e3
  intro e4
  refine jfJx4a65c_get_915e3 (I := I) (fw_sub W (by decide)) ?_ _ _ _ iσ4
  intro q9 σ8 iσ8
  intro a11 e5
  intro e6
  intro v14 e7
  refine ⟨?_, ?_⟩
  · intro e8
    intro a16 e9
    intro e10
    refine jfJx4a65c_size_8abf5 (I := I) (fw_sub W (by decide)) ?_ _ _ iσ8
    intro r19 σ18 iσ18
    exact hQ _ _ iσ18
  · refine ⟨?_, ?_⟩
    · intro e11
      refine ⟨?_, ?_⟩
      · intro e12
        exact hQ _ _ iσ8
      · intro e13
        exact hQ _ _ iσ8
    · refine ⟨?_, ?_⟩
      · intro e14
        refine ⟨?_, ?_⟩
        · intro e15
          exact hQ _ _ iσ8
        · intro e16
          exact hQ _ _ iσ8
      · intro e17 e18 e19
        intro e20
        exact hX _ _ ((W _ iσ8).2.2.2.2.2.1 (by decide))

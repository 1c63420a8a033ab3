section
def vX12_mills_119 (k164 : Int32 → Int32 → Int32 → Int32 → Int32 → km_S → Prop) (Q : km_S → Prop) : Nat → Int32 → Int32 → Int32 → Int32 → Int32 → Int32 → km_S → Prop
  | 0, _, _, _, _, _, _, _ => True
  | n + 1, l1, l2, l3, l4, l5, l6, μ => vp_in l1 10 → (((km_a μ 29 l1.toNatClampNeg) ≤ (l6 + 1) → k164 l1 l2 l3 l4 l5 μ) ∧ (¬ ((km_a μ 29 l1.toNatClampNeg) ≤ (l6 + 1)) → vp_in (((100 * l1) + l6) + 1) 1000 → vp_in ((100 * l1) + l6) 1000 → ∀ μ16, μ16 = km_sa μ 30 ((100 * l1) + l6).toNatClampNeg (km_a μ 30 (((100 * l1) + l6) + 1).toNatClampNeg) → ∀ v17 : Int32, v17 = l6 + 1 → vX12_mills_119 k164 Q n l1 l2 l3 l4 l5 v17 μ16))
set_option maxRecDepth 100000 in
set_option maxHeartbeats 4000000 in
theorem jcX12_mills_119 {k164 k164' k164'' : Int32 → Int32 → Int32 → Int32 → Int32 → km_S → Prop} (hk164 : ∀ y0 y1 y2 y3 y4 y5, k164 y0 y1 y2 y3 y4 y5 → k164' y0 y1 y2 y3 y4 y5 → k164'' y0 y1 y2 y3 y4 y5) {Q Q' Q'' : km_S → Prop} (hQ : ∀ y0, Q y0 → Q' y0 → Q'' y0) : ∀ (n : Nat) (l1 : Int32) (l2 : Int32) (l3 : Int32) (l4 : Int32) (l5 : Int32) (l6 : Int32) (μ : km_S), wX12_mills_119 k164 Q n l1 l2 l3 l4 l5 l6 μ → vX12_mills_119 k164' Q' n l1 l2 l3 l4 l5 l6 μ → wX12_mills_119 k164'' Q'' n l1 l2 l3 l4 l5 l6 μ := by
  intro n
  induction n with
  | zero => intro l1 l2 l3 l4 l5 l6 μ h; exact h.elim
  | succ n ih =>
    intro l1 l2 l3 l4 l5 l6 μ h v
    unfold wX12_mills_119 at h
    unfold vX12_mills_119 at v
    unfold wX12_mills_119
    refine ⟨h.1, ?_⟩
    have v := v h.1
    have h := h.2
    refine ⟨?_, ?_⟩
    · have h := h.1
      have v := v.1
      intro e2
      have h := h e2
      have v := v e2
      exact hk164 _ _ _ _ _ _ h v
    · have h := h.2
      have v := v.2
      intro e3
      have h := h e3
      have v := v e3
      refine ⟨h.1, ?_⟩
      have v := v h.1
      have h := h.2
      refine ⟨h.1, ?_⟩
      have v := v h.1
      have h := h.2
      intro μ16 e6
      have h := h μ16 e6
      have v := v μ16 e6
      intro v17 e7
      have h := h v17 e7
      have v := v v17 e7
      exact ih _ _ _ _ _ _ _ h v
set_option maxRecDepth 100000 in
set_option maxHeartbeats 4000000 in
theorem jaX12_mills_119 {k164 k164' : Int32 → Int32 → Int32 → Int32 → Int32 → km_S → Prop} (hk164 : ∀ y0 y1 y2 y3 y4 y5, k164 y0 y1 y2 y3 y4 y5 → k164' y0 y1 y2 y3 y4 y5) {Q Q' : km_S → Prop} (hQ : ∀ y0, Q y0 → Q' y0) : ∀ (n m : Nat) (l1 : Int32) (l2 : Int32) (l3 : Int32) (l4 : Int32) (l5 : Int32) (l6 : Int32) (μ : km_S), wX12_mills_119 k164 Q n l1 l2 l3 l4 l5 l6 μ → vX12_mills_119 k164' Q' m l1 l2 l3 l4 l5 l6 μ := by
  intro n
  induction n with
  | zero => intro m l1 l2 l3 l4 l5 l6 μ h; exact h.elim
  | succ n ih =>
    intro m l1 l2 l3 l4 l5 l6 μ h
    cases m with
    | zero => exact trivial
    | succ m =>
      unfold wX12_mills_119 at h
      unfold vX12_mills_119
      intro e1
      have h := h.2
      refine ⟨?_, ?_⟩
      · have h := h.1
        intro e2
        have h := h e2
        exact hk164 _ _ _ _ _ _ h
      · have h := h.2
        intro e3
        have h := h e3
        intro e4
        have h := h.2
        intro e5
        have h := h.2
        intro μ16 e6
        have h := h μ16 e6
        intro v17 e7
        have h := h v17 e7
        exact ih m _ _ _ _ _ _ _ h
set_option maxRecDepth 100000 in
set_option maxHeartbeats 4000000 in
theorem jfX12_mills_119 {I : km_S → Prop} (W : gw_ I [30]) {k164 : Int32 → Int32 → Int32 → Int32 → Int32 → km_S → Prop} (hk164 : ∀ y0 y1 y2 y3 y4 y5, I y5 → k164 y0 y1 y2 y3 y4 y5) {Q : km_S → Prop} (hQ : ∀ y0, I y0 → Q y0) : ∀ (n : Nat) (l1 : Int32) (l2 : Int32) (l3 : Int32) (l4 : Int32) (l5 : Int32) (l6 : Int32) (μ : km_S), I μ → vX12_mills_119 k164 Q n l1 l2 l3 l4 l5 l6 μ := by
  intro n
  induction n with
  | zero => intro l1 l2 l3 l4 l5 l6 μ i; exact trivial
  | succ n ih =>
    intro l1 l2 l3 l4 l5 l6 μ i
    unfold vX12_mills_119
    intro e1
    refine ⟨?_, ?_⟩
    · intro e2
      exact hk164 _ _ _ _ _ _ i
    · intro e3
      intro e4
      intro e5
      intro μ16 e6
      have iμ16 : I μ16 := by rw [e6]; exact ((W _ i) 30 (by decide)).2.1 _ _
      intro v17 e7
      exact ih _ _ _ _ _ _ _ iμ16
def vX12_mills_38 (k196 : Int32 → Int32 → Int32 → km_S → Prop) (Q : km_S → Prop) : Nat → Int32 → Int32 → Int32 → Int32 → km_S → Prop
  | 0, _, _, _, _, _ => True
  | n + 1, l1, l2, l3, l4, μ => vp_in l1 10 → (((km_a μ 29 l1.toNatClampNeg) ≤ l4 → k196 l1 l2 l3 μ) ∧ (¬ ((km_a μ 29 l1.toNatClampNeg) ≤ l4) → vp_in l3 60 → (((km_a μ 50 l3.toNatClampNeg) ≤ 0 → k196 l1 l2 l3 μ) ∧ (¬ ((km_a μ 50 l3.toNatClampNeg) ≤ 0) → ((3 ≤ l2 → k196 l1 l2 l3 μ) ∧ (¬ (3 ≤ l2) → vp_in ((100 * l1) + l4) 1000 → ∀ v24, v24 = km_a μ 30 ((100 * l1) + l4).toNatClampNeg → vp_in v24 400 → vp_in l3 60 → ((¬ (km_a μ 35 v24.toNatClampNeg) = (km_a μ 48 l3.toNatClampNeg) → vX12_mills_109 (vX12_mills_38 k196 Q n) Q l1 l2 l3 l4 μ) ∧ ((km_a μ 35 v24.toNatClampNeg) = (km_a μ 48 l3.toNatClampNeg) → vp_in v24 400 → vp_in l3 60 → (((km_a μ 49 l3.toNatClampNeg) ≤ (km_a μ 36 v24.toNatClampNeg) → ∀ j, vX12_mills_119 (vX12_mills_164 (vX12_mills_38 k196 Q n) Q) Q j l1 l2 l3 l4 v24 l4 μ) ∧ (¬ ((km_a μ 49 l3.toNatClampNeg) ≤ (km_a μ 36 v24.toNatClampNeg)) → vX12_mills_109 (vX12_mills_38 k196 Q n) Q l1 l2 l3 l4 μ))))))))))
set_option maxRecDepth 100000 in
set_option maxHeartbeats 4000000 in
theorem jcX12_mills_38 {k196 k196' k196'' : Int32 → Int32 → Int32 → km_S → Prop} (hk196 : ∀ y0 y1 y2 y3, k196 y0 y1 y2 y3 → k196' y0 y1 y2 y3 → k196'' y0 y1 y2 y3) {Q Q' Q'' : km_S → Prop} (hQ : ∀ y0, Q y0 → Q' y0 → Q'' y0) : ∀ (n : Nat) (l1 : Int32) (l2 : Int32) (l3 : Int32) (l4 : Int32) (μ : km_S), wX12_mills_38 k196 Q n l1 l2 l3 l4 μ → vX12_mills_38 k196' Q' n l1 l2 l3 l4 μ → wX12_mills_38 k196'' Q'' n l1 l2 l3 l4 μ := by
  intro n
  induction n with
  | zero => intro l1 l2 l3 l4 μ h; exact h.elim
  | succ n ih =>
    intro l1 l2 l3 l4 μ h v
    unfold wX12_mills_38 at h
    unfold vX12_mills_38 at v
    unfold wX12_mills_38
    refine ⟨h.1, ?_⟩
    have v := v h.1
    have h := h.2
    refine ⟨?_, ?_⟩
    · have h := h.1
      have v := v.1
      intro e2
      have h := h e2
      have v := v e2
      exact hk196 _ _ _ _ h v
    · have h := h.2
      have v := v.2
      intro e3
      have h := h e3
      have v := v e3
      refine ⟨h.1, ?_⟩
      have v := v h.1
      have h := h.2
      refine ⟨?_, ?_⟩
      · have h := h.1
        have v := v.1
        intro e5
        have h := h e5
        have v := v e5
        exact hk196 _ _ _ _ h v
      · have h := h.2
        have v := v.2
        intro e6
        have h := h e6
        have v := v e6
        refine ⟨?_, ?_⟩
        · have h := h.1
          have v := v.1
          intro e7
          have h := h e7
          have v := v e7
          exact hk196 _ _ _ _ h v
        · have h := h.2
          have v := v.2
          intro e8
          have h := h e8
          have v := v e8
          refine ⟨h.1, ?_⟩
          have v := v h.1
          have h := h.2
          intro v24 e10
          have h := h v24 e10
          have v := v v24 e10
          refine ⟨h.1, ?_⟩
          have v := v h.1
          have h := h.2
          refine ⟨h.1, ?_⟩
          have v := v h.1
          have h := h.2
          refine ⟨?_, ?_⟩
          · have h := h.1
            have v := v.1
            intro e13
            have h := h e13
            have v := v e13
            exact jcX12_mills_109 (k38 := wX12_mills_38 k196 Q n) (k38' := vX12_mills_38 k196' Q' n) (k38'' := wX12_mills_38 k196'' Q'' n) (fun _ _ _ _ _ h v => ih _ _ _ _ _ h v) hQ _ _ _ _ _ h v
          · have h := h.2
            have v := v.2
            intro e14
            have h := h e14
            have v := v e14
            refine ⟨h.1, ?_⟩
            have v := v h.1
            have h := h.2
            refine ⟨h.1, ?_⟩
            have v := v h.1
            have h := h.2
            refine ⟨?_, ?_⟩
            · have h := h.1
              have v := v.1
              intro e17
              have h := h e17
              have v := v e17
              obtain ⟨j, h⟩ := h
              refine ⟨j, ?_⟩
              have v := v j
              exact jcX12_mills_119 (k164 := wX12_mills_164 (wX12_mills_38 k196 Q n) Q) (k164' := vX12_mills_164 (vX12_mills_38 k196' Q' n) Q') (k164'' := wX12_mills_164 (wX12_mills_38 k196'' Q'' n) Q'') (fun _ _ _ _ _ _ h v => jcX12_mills_164 (k38 := wX12_mills_38 k196 Q n) (k38' := vX12_mills_38 k196' Q' n) (k38'' := wX12_mills_38 k196'' Q'' n) (fun _ _ _ _ _ h v => ih _ _ _ _ _ h v) hQ _ _ _ _ _ _ h v) hQ _ _ _ _ _ _ _ _ h v
            · have h := h.2
              have v := v.2
              intro e18
              have h := h e18
              have v := v e18
              exact jcX12_mills_109 (k38 := wX12_mills_38 k196 Q n) (k38' := vX12_mills_38 k196' Q' n) (k38'' := wX12_mills_38 k196'' Q'' n) (fun _ _ _ _ _ h v => ih _ _ _ _ _ h v) hQ _ _ _ _ _ h v
set_option maxRecDepth 100000 in
set_option maxHeartbeats 4000000 in
theorem jaX12_mills_38 {k196 k196' : Int32 → Int32 → Int32 → km_S → Prop} (hk196 : ∀ y0 y1 y2 y3, k196 y0 y1 y2 y3 → k196' y0 y1 y2 y3) {Q Q' : km_S → Prop} (hQ : ∀ y0, Q y0 → Q' y0) : ∀ (n m : Nat) (l1 : Int32) (l2 : Int32) (l3 : Int32) (l4 : Int32) (μ : km_S), wX12_mills_38 k196 Q n l1 l2 l3 l4 μ → vX12_mills_38 k196' Q' m l1 l2 l3 l4 μ := by
  intro n
  induction n with
  | zero => intro m l1 l2 l3 l4 μ h; exact h.elim
  | succ n ih =>
    intro m l1 l2 l3 l4 μ h
    cases m with
    | zero => exact trivial
    | succ m =>
      unfold wX12_mills_38 at h
      unfold vX12_mills_38
      intro e1
      have h := h.2
      refine ⟨?_, ?_⟩
      · have h := h.1
        intro e2
        have h := h e2
        exact hk196 _ _ _ _ h
      · have h := h.2
        intro e3
        have h := h e3
        intro e4
        have h := h.2
        refine ⟨?_, ?_⟩
        · have h := h.1
          intro e5
          have h := h e5
          exact hk196 _ _ _ _ h
        · have h := h.2
          intro e6
          have h := h e6
          refine ⟨?_, ?_⟩
          · have h := h.1
            intro e7
            have h := h e7
            exact hk196 _ _ _ _ h
          · have h := h.2
            intro e8
            have h := h e8
            intro e9
            have h := h.2
            intro v24 e10
            have h := h v24 e10
            intro e11
            have h := h.2
            intro e12
            have h := h.2
            refine ⟨?_, ?_⟩
            · have h := h.1
              intro e13
              have h := h e13
              exact jaX12_mills_109 (k38 := wX12_mills_38 k196 Q n) (k38' := vX12_mills_38 k196' Q' m) (fun _ _ _ _ _ h => ih m _ _ _ _ _ h) hQ _ _ _ _ _ h
            · have h := h.2
              intro e14
              have h := h e14
              intro e15
              have h := h.2
              intro e16
              have h := h.2
              refine ⟨?_, ?_⟩
              · have h := h.1
                intro e17
                have h := h e17
                obtain ⟨j, h⟩ := h
                intro j9
                exact jaX12_mills_119 (k164 := wX12_mills_164 (wX12_mills_38 k196 Q n) Q) (k164' := vX12_mills_164 (vX12_mills_38 k196' Q' m) Q') (fun _ _ _ _ _ _ h => jaX12_mills_164 (k38 := wX12_mills_38 k196 Q n) (k38' := vX12_mills_38 k196' Q' m) (fun _ _ _ _ _ h => ih m _ _ _ _ _ h) hQ _ _ _ _ _ _ h) hQ _ j9 _ _ _ _ _ _ _ h
              · have h := h.2
                intro e18
                have h := h e18
                exact jaX12_mills_109 (k38 := wX12_mills_38 k196 Q n) (k38' := vX12_mills_38 k196' Q' m) (fun _ _ _ _ _ h => ih m _ _ _ _ _ h) hQ _ _ _ _ _ h
set_option maxRecDepth 100000 in
set_option maxHeartbeats 4000000 in
theorem jfX12_mills_38 {I : km_S → Prop} (W : gw_ I [6, 29, 30, 38, 42, 43, 50]) {k196 : Int32 → Int32 → Int32 → km_S → Prop} (hk196 : ∀ y0 y1 y2 y3, I y3 → k196 y0 y1 y2 y3) {Q : km_S → Prop} (hQ : ∀ y0, I y0 → Q y0) : ∀ (n : Nat) (l1 : Int32) (l2 : Int32) (l3 : Int32) (l4 : Int32) (μ : km_S), I μ → vX12_mills_38 k196 Q n l1 l2 l3 l4 μ := by
  intro n
  induction n with
  | zero => intro l1 l2 l3 l4 μ i; exact trivial
  | succ n ih =>
    intro l1 l2 l3 l4 μ i
    unfold vX12_mills_38
    intro e1
    refine ⟨?_, ?_⟩
    · intro e2
      exact hk196 _ _ _ _ i
    · intro e3
      intro e4
      refine ⟨?_, ?_⟩
      · intro e5
        exact hk196 _ _ _ _ i
      · intro e6
        refine ⟨?_, ?_⟩
        · intro e7
          exact hk196 _ _ _ _ i
        · intro e8
          intro e9
          intro v24 e10
          intro e11
          intro e12
          refine ⟨?_, ?_⟩
          · intro e13
            exact jfX12_mills_109 (I := I) (gw_sub W (by decide)) (k38 := vX12_mills_38 k196 Q n) (fun _ _ _ _ _ i => ih _ _ _ _ _ i) hQ _ _ _ _ _ i
          · intro e14
            intro e15
            intro e16
            refine ⟨?_, ?_⟩
            · intro e17
              intro j
              exact jfX12_mills_119 (I := I) (gw_sub W (by decide)) (k164 := vX12_mills_164 (vX12_mills_38 k196 Q n) Q) (fun _ _ _ _ _ _ i => jfX12_mills_164 (I := I) (gw_sub W (by decide)) (k38 := vX12_mills_38 k196 Q n) (fun _ _ _ _ _ i => ih _ _ _ _ _ i) hQ _ _ _ _ _ _ i) hQ _ _ _ _ _ _ _ _ i
            · intro e18
              exact jfX12_mills_109 (I := I) (gw_sub W (by decide)) (k38 := vX12_mills_38 k196 Q n) (fun _ _ _ _ _ i => ih _ _ _ _ _ i) hQ _ _ _ _ _ i
def vX12_mills_14 (k202 : Int32 → km_S → Prop) (Q : km_S → Prop) : Nat → Int32 → Int32 → Int32 → km_S → Prop
  | 0, _, _, _, _ => True
  | n + 1, l1, l2, l3, μ => (((km_i μ 8) ≤ l3 → k202 l1 μ) ∧ (¬ ((km_i μ 8) ≤ l3) → vp_in l3 60 → (((km_a μ 47 l3.toNatClampNeg) = l1 → ∀ j, vX12_mills_38 (vX12_mills_196 (vX12_mills_14 k202 Q n) Q) Q j l1 l2 l3 0 μ) ∧ (¬ ((km_a μ 47 l3.toNatClampNeg) = l1) → vX12_mills_196 (vX12_mills_14 k202 Q n) Q l1 l2 l3 μ))))
set_option maxRecDepth 100000 in
set_option maxHeartbeats 4000000 in
theorem jcX12_mills_14 {k202 k202' k202'' : Int32 → km_S → Prop} (hk202 : ∀ y0 y1, k202 y0 y1 → k202' y0 y1 → k202'' y0 y1) {Q Q' Q'' : km_S → Prop} (hQ : ∀ y0, Q y0 → Q' y0 → Q'' y0) : ∀ (n : Nat) (l1 : Int32) (l2 : Int32) (l3 : Int32) (μ : km_S), wX12_mills_14 k202 Q n l1 l2 l3 μ → vX12_mills_14 k202' Q' n l1 l2 l3 μ → wX12_mills_14 k202'' Q'' n l1 l2 l3 μ := by
  intro n
  induction n with
  | zero => intro l1 l2 l3 μ h; exact h.elim
  | succ n ih =>
    intro l1 l2 l3 μ h v
    unfold wX12_mills_14 at h
    unfold vX12_mills_14 at v
    unfold wX12_mills_14
    refine ⟨?_, ?_⟩
    · have h := h.1
      have v := v.1
      intro e1
      have h := h e1
      have v := v e1
      exact hk202 _ _ h v
    · have h := h.2
      have v := v.2
      intro e2
      have h := h e2
      have v := v e2
      refine ⟨h.1, ?_⟩
      have v := v h.1
      have h := h.2
      refine ⟨?_, ?_⟩
      · have h := h.1
        have v := v.1
        intro e4
        have h := h e4
        have v := v e4
        obtain ⟨j, h⟩ := h
        refine ⟨j, ?_⟩
        have v := v j
        exact jcX12_mills_38 (k196 := wX12_mills_196 (wX12_mills_14 k202 Q n) Q) (k196' := vX12_mills_196 (vX12_mills_14 k202' Q' n) Q') (k196'' := wX12_mills_196 (wX12_mills_14 k202'' Q'' n) Q'') (fun _ _ _ _ h v => jcX12_mills_196 (k14 := wX12_mills_14 k202 Q n) (k14' := vX12_mills_14 k202' Q' n) (k14'' := wX12_mills_14 k202'' Q'' n) (fun _ _ _ _ h v => ih _ _ _ _ h v) hQ _ _ _ _ h v) hQ _ _ _ _ _ _ h v
      · have h := h.2
        have v := v.2
        intro e5
        have h := h e5
        have v := v e5
        exact jcX12_mills_196 (k14 := wX12_mills_14 k202 Q n) (k14' := vX12_mills_14 k202' Q' n) (k14'' := wX12_mills_14 k202'' Q'' n) (fun _ _ _ _ h v => ih _ _ _ _ h v) hQ _ _ _ _ h v
set_option maxRecDepth 100000 in
set_option maxHeartbeats 4000000 in
theorem jaX12_mills_14 {k202 k202' : Int32 → km_S → Prop} (hk202 : ∀ y0 y1, k202 y0 y1 → k202' y0 y1) {Q Q' : km_S → Prop} (hQ : ∀ y0, Q y0 → Q' y0) : ∀ (n m : Nat) (l1 : Int32) (l2 : Int32) (l3 : Int32) (μ : km_S), wX12_mills_14 k202 Q n l1 l2 l3 μ → vX12_mills_14 k202' Q' m l1 l2 l3 μ := by
  intro n
  induction n with
  | zero => intro m l1 l2 l3 μ h; exact h.elim
  | succ n ih =>
    intro m l1 l2 l3 μ h
    cases m with
    | zero => exact trivial
    | succ m =>
      unfold wX12_mills_14 at h
      unfold vX12_mills_14
      refine ⟨?_, ?_⟩
      · have h := h.1
        intro e1
        have h := h e1
        exact hk202 _ _ h
      · have h := h.2
        intro e2
        have h := h e2
        intro e3
        have h := h.2
        refine ⟨?_, ?_⟩
        · have h := h.1
          intro e4
          have h := h e4
          obtain ⟨j, h⟩ := h
          intro j9
          exact jaX12_mills_38 (k196 := wX12_mills_196 (wX12_mills_14 k202 Q n) Q) (k196' := vX12_mills_196 (vX12_mills_14 k202' Q' m) Q') (fun _ _ _ _ h => jaX12_mills_196 (k14 := wX12_mills_14 k202 Q n) (k14' := vX12_mills_14 k202' Q' m) (fun _ _ _ _ h => ih m _ _ _ _ h) hQ _ _ _ _ h) hQ _ j9 _ _ _ _ _ h
        · have h := h.2
          intro e5
          have h := h e5
          exact jaX12_mills_196 (k14 := wX12_mills_14 k202 Q n) (k14' := vX12_mills_14 k202' Q' m) (fun _ _ _ _ h => ih m _ _ _ _ h) hQ _ _ _ _ h
set_option maxRecDepth 100000 in
set_option maxHeartbeats 4000000 in
theorem jfX12_mills_14 {I : km_S → Prop} (W : gw_ I [6, 29, 30, 38, 42, 43, 50]) {k202 : Int32 → km_S → Prop} (hk202 : ∀ y0 y1, I y1 → k202 y0 y1) {Q : km_S → Prop} (hQ : ∀ y0, I y0 → Q y0) : ∀ (n : Nat) (l1 : Int32) (l2 : Int32) (l3 : Int32) (μ : km_S), I μ → vX12_mills_14 k202 Q n l1 l2 l3 μ := by
  intro n
  induction n with
  | zero => intro l1 l2 l3 μ i; exact trivial
  | succ n ih =>
    intro l1 l2 l3 μ i
    unfold vX12_mills_14
    refine ⟨?_, ?_⟩
    · intro e1
      exact hk202 _ _ i
    · intro e2
      intro e3
      refine ⟨?_, ?_⟩
      · intro e4
        intro j
        exact jfX12_mills_38 (I := I) (gw_sub W (by decide)) (k196 := vX12_mills_196 (vX12_mills_14 k202 Q n) Q) (fun _ _ _ _ i => jfX12_mills_196 (I := I) (gw_sub W (by decide)) (k14 := vX12_mills_14 k202 Q n) (fun _ _ _ _ i => ih _ _ _ _ i) hQ _ _ _ _ i) hQ _ _ _ _ _ _ i
      · intro e5
        exact jfX12_mills_196 (I := I) (gw_sub W (by decide)) (k14 := vX12_mills_14 k202 Q n) (fun _ _ _ _ i => ih _ _ _ _ i) hQ _ _ _ _ i
def vX12_mills_2 (Q : km_S → Prop) : Nat → Int32 → km_S → Prop
  | 0, _, _ => True
  | n + 1, l1, μ => (((km_i μ 3) ≤ l1 → Q μ) ∧ (¬ ((km_i μ 3) ≤ l1) → ∀ j, vX12_mills_14 (vX12_mills_202 (vX12_mills_2 Q n) Q) Q j l1 0 0 μ))
set_option maxRecDepth 100000 in
set_option maxHeartbeats 4000000 in
theorem jcX12_mills_2 {Q Q' Q'' : km_S → Prop} (hQ : ∀ y0, Q y0 → Q' y0 → Q'' y0) : ∀ (n : Nat) (l1 : Int32) (μ : km_S), wX12_mills_2 Q n l1 μ → vX12_mills_2 Q' n l1 μ → wX12_mills_2 Q'' n l1 μ := by
  intro n
  induction n with
  | zero => intro l1 μ h; exact h.elim
  | succ n ih =>
    intro l1 μ h v
    unfold wX12_mills_2 at h
    unfold vX12_mills_2 at v
    unfold wX12_mills_2
    refine ⟨?_, ?_⟩
    · have h := h.1
      have v := v.1
      intro e1
      have h := h e1
      have v := v e1
      exact hQ _ h v
    · have h := h.2
      have v := v.2
      intro e2
      have h := h e2
      have v := v e2
      obtain ⟨j, h⟩ := h
      refine ⟨j, ?_⟩
      have v := v j
      exact jcX12_mills_14 (k202 := wX12_mills_202 (wX12_mills_2 Q n) Q) (k202' := vX12_mills_202 (vX12_mills_2 Q' n) Q') (k202'' := wX12_mills_202 (wX12_mills_2 Q'' n) Q'') (fun _ _ h v => jcX12_mills_202 (k2 := wX12_mills_2 Q n) (k2' := vX12_mills_2 Q' n) (k2'' := wX12_mills_2 Q'' n) (fun _ _ h v => ih _ _ h v) hQ _ _ h v) hQ _ _ _ _ _ h v
set_option maxRecDepth 100000 in
set_option maxHeartbeats 4000000 in
theorem jaX12_mills_2 {Q Q' : km_S → Prop} (hQ : ∀ y0, Q y0 → Q' y0) : ∀ (n m : Nat) (l1 : Int32) (μ : km_S), wX12_mills_2 Q n l1 μ → vX12_mills_2 Q' m l1 μ := by
  intro n
  induction n with
  | zero => intro m l1 μ h; exact h.elim
  | succ n ih =>
    intro m l1 μ h
    cases m with
    | zero => exact trivial
    | succ m =>
      unfold wX12_mills_2 at h
      unfold vX12_mills_2
      refine ⟨?_, ?_⟩
      · have h := h.1
        intro e1
        have h := h e1
        exact hQ _ h
      · have h := h.2
        intro e2
        have h := h e2
        obtain ⟨j, h⟩ := h
        intro j9
        exact jaX12_mills_14 (k202 := wX12_mills_202 (wX12_mills_2 Q n) Q) (k202' := vX12_mills_202 (vX12_mills_2 Q' m) Q') (fun _ _ h => jaX12_mills_202 (k2 := wX12_mills_2 Q n) (k2' := vX12_mills_2 Q' m) (fun _ _ h => ih m _ _ h) hQ _ _ h) hQ _ j9 _ _ _ _ h
set_option maxRecDepth 100000 in
set_option maxHeartbeats 4000000 in
theorem jfX12_mills_2 {I : km_S → Prop} (W : gw_ I [6, 29, 30, 38, 42, 43, 50]) {Q : km_S → Prop} (hQ : ∀ y0, I y0 → Q y0) : ∀ (n : Nat) (l1 : Int32) (μ : km_S), I μ → vX12_mills_2 Q n l1 μ := by
  intro n
  induction n with
  | zero => intro l1 μ i; exact trivial
  | succ n ih =>
    intro l1 μ i
    unfold vX12_mills_2
    refine ⟨?_, ?_⟩
    · intro e1
      exact hQ _ i
    · intro e2
      intro j
      exact jfX12_mills_14 (I := I) (gw_sub W (by decide)) (k202 := vX12_mills_202 (vX12_mills_2 Q n) Q) (fun _ _ i => jfX12_mills_202 (I := I) (gw_sub W (by decide)) (k2 := vX12_mills_2 Q n) (fun _ _ i => ih _ _ i) hQ _ _ i) hQ _ _ _ _ _ i
def vX12_mills (μ : km_S) (Q : km_S → Prop) : Prop := ∀ j, vX12_mills_2 Q j 0 μ
set_option maxRecDepth 100000 in
set_option maxHeartbeats 4000000 in
theorem jcX12_mills {Q Q' Q'' : km_S → Prop} (hQ : ∀ y0, Q y0 → Q' y0 → Q'' y0) : ∀ (μ : km_S), wX12_mills μ Q → vX12_mills μ Q' → wX12_mills μ Q'' := by
  intro μ h v
  unfold wX12_mills at h
  unfold vX12_mills at v
  unfold wX12_mills
  obtain ⟨j, h⟩ := h
  refine ⟨j, ?_⟩
  have v := v j
  exact jcX12_mills_2 hQ _ _ _ h v
set_option maxRecDepth 100000 in
set_option maxHeartbeats 4000000 in
theorem jaX12_mills {Q Q' : km_S → Prop} (hQ : ∀ y0, Q y0 → Q' y0) : ∀ (μ : km_S), wX12_mills μ Q → vX12_mills μ Q' := by
  intro μ h
  unfold wX12_mills at h
  unfold vX12_mills
  obtain ⟨j, h⟩ := h
  intro j9
  exact jaX12_mills_2 hQ _ j9 _ _ h
set_option maxRecDepth 100000 in
set_option maxHeartbeats 4000000 in
theorem jfX12_mills {I : km_S → Prop} (W : gw_ I [6, 29, 30, 38, 42, 43, 50]) {Q : km_S → Prop} (hQ : ∀ y0, I y0 → Q y0) : ∀ (μ : km_S), I μ → vX12_mills μ Q := by
  intro μ i
  unfold vX12_mills
  intro j
  exact jfX12_mills_2 (I := I) (gw_sub W (by decide)) hQ _ _ _ i
def vX12_hours_76 (Q : Int32 → km_S → Prop) (μ : km_S) : Prop := Q (km_i μ 2) μ
set_option maxRecDepth 100000 in
set_option maxHeartbeats 4000000 in
theorem jcX12_hours_76 {Q Q' Q'' : Int32 → km_S → Prop} (hQ : ∀ y0 y1, Q y0 y1 → Q' y0 y1 → Q'' y0 y1) : ∀ (μ : km_S), wX12_hours_76 Q μ → vX12_hours_76 Q' μ → wX12_hours_76 Q'' μ := by
  intro μ h v
  unfold wX12_hours_76 at h
  unfold vX12_hours_76 at v
  unfold wX12_hours_76
  exact hQ _ _ h v
set_option maxRecDepth 100000 in
set_option maxHeartbeats 4000000 in
theorem jaX12_hours_76 {Q Q' : Int32 → km_S → Prop} (hQ : ∀ y0 y1, Q y0 y1 → Q' y0 y1) : ∀ (μ : km_S), wX12_hours_76 Q μ → vX12_hours_76 Q' μ := by
  intro μ h
  unfold wX12_hours_76 at h
  unfold vX12_hours_76
  exact hQ _ _ h
set_option maxRecDepth 100000 in
set_option maxHeartbeats 4000000 in
theorem jfX12_hours_76 {I : km_S → Prop} (W : gw_ I []) {Q : Int32 → km_S → Prop} (hQ : ∀ y0 y1, I y1 → Q y0 y1) : ∀ (μ : km_S), I μ → vX12_hours_76 Q μ := by
  intro μ i
  unfold vX12_hours_76
  exact hQ _ _ i
def vX12_hours_28 (Q : Int32 → km_S → Prop) (μ : km_S) : Prop := vX12_fail μ (fun r2 μ1 => Q r2 μ1)
set_option maxRecDepth 100000 in
set_option maxHeartbeats 4000000 in
theorem jcX12_hours_28 {Q Q' Q'' : Int32 → km_S → Prop} (hQ : ∀ y0 y1, Q y0 y1 → Q' y0 y1 → Q'' y0 y1) : ∀ (μ : km_S), wX12_hours_28 Q μ → vX12_hours_28 Q' μ → wX12_hours_28 Q'' μ := by
  intro μ h v
  unfold wX12_hours_28 at h
  unfold vX12_hours_28 at v
  unfold wX12_hours_28
  refine jcX12_fail ?_ _ h v
  intro r2 μ1 h v
  exact hQ _ _ h v
set_option maxRecDepth 100000 in
set_option maxHeartbeats 4000000 in
theorem jaX12_hours_28 {Q Q' : Int32 → km_S → Prop} (hQ : ∀ y0 y1, Q y0 y1 → Q' y0 y1) : ∀ (μ : km_S), wX12_hours_28 Q μ → vX12_hours_28 Q' μ := by
  intro μ h
  unfold wX12_hours_28 at h
  unfold vX12_hours_28
  refine jaX12_fail ?_ _ h
  intro r2 μ1 h
  exact hQ _ _ h
set_option maxRecDepth 100000 in
set_option maxHeartbeats 4000000 in
theorem jfX12_hours_28 {I : km_S → Prop} (W : gw_ I [1]) {Q : Int32 → km_S → Prop} (hQ : ∀ y0 y1, I y1 → Q y0 y1) : ∀ (μ : km_S), I μ → vX12_hours_28 Q μ := by
  intro μ i
  unfold vX12_hours_28
  refine jfX12_fail (I := I) (gw_sub W (by decide)) ?_ _ i
  intro r2 μ1 iμ1
  exact hQ _ _ iμ1
def vX12_hours_35 (k76 : km_S → Prop) (Q : Int32 → km_S → Prop) : Nat → Int32 → Int32 → km_S → Prop
  | 0, _, _, _ => True
  | n + 1, l1, l2, μ => ((l1 ≤ l2 → k76 μ) ∧ (¬ (l1 ≤ l2) → vX12_waterGoes μ (fun μ4 => vX12_move μ4 (fun μ5 => vX12_jams μ5 (fun μ6 => vX12_older μ6 (fun μ7 => vX12_mills μ7 (fun μ8 => ∀ μ9, μ9 = km_si μ8 2 ((km_i μ8 2) + 1) → ∀ v10 : Int32, v10 = l2 + 1 → vX12_hours_35 k76 Q n l1 v10 μ9)))))))
set_option maxRecDepth 100000 in
set_option maxHeartbeats 4000000 in
theorem jcX12_hours_35 {k76 k76' k76'' : km_S → Prop} (hk76 : ∀ y0, k76 y0 → k76' y0 → k76'' y0) {Q Q' Q'' : Int32 → km_S → Prop} (hQ : ∀ y0 y1, Q y0 y1 → Q' y0 y1 → Q'' y0 y1) : ∀ (n : Nat) (l1 : Int32) (l2 : Int32) (μ : km_S), wX12_hours_35 k76 Q n l1 l2 μ → vX12_hours_35 k76' Q' n l1 l2 μ → wX12_hours_35 k76'' Q'' n l1 l2 μ := by
  intro n
  induction n with
  | zero => intro l1 l2 μ h; exact h.elim
  | succ n ih =>
    intro l1 l2 μ h v
    unfold wX12_hours_35 at h
    unfold vX12_hours_35 at v
    unfold wX12_hours_35
    refine ⟨?_, ?_⟩
    · have h := h.1
      have v := v.1
      intro e1
      have h := h e1
      have v := v e1
      exact hk76 _ h v
    · have h := h.2
      have v := v.2
      intro e2
      have h := h e2
      have v := v e2
      refine jcX12_waterGoes ?_ _ h v
      intro μ4 h v
      refine jcX12_move ?_ _ h v
      intro μ5 h v
      refine jcX12_jams ?_ _ h v
      intro μ6 h v
      refine jcX12_older ?_ _ h v
      intro μ7 h v
      refine jcX12_mills ?_ _ h v
      intro μ8 h v
      intro μ9 e3
      have h := h μ9 e3
      have v := v μ9 e3
      intro v10 e4
      have h := h v10 e4
      have v := v v10 e4
      exact ih _ _ _ h v
set_option maxRecDepth 100000 in
set_option maxHeartbeats 4000000 in
theorem jaX12_hours_35 {k76 k76' : km_S → Prop} (hk76 : ∀ y0, k76 y0 → k76' y0) {Q Q' : Int32 → km_S → Prop} (hQ : ∀ y0 y1, Q y0 y1 → Q' y0 y1) : ∀ (n m : Nat) (l1 : Int32) (l2 : Int32) (μ : km_S), wX12_hours_35 k76 Q n l1 l2 μ → vX12_hours_35 k76' Q' m l1 l2 μ := by
  intro n
  induction n with
  | zero => intro m l1 l2 μ h; exact h.elim
  | succ n ih =>
    intro m l1 l2 μ h
    cases m with
    | zero => exact trivial
    | succ m =>
      unfold wX12_hours_35 at h
      unfold vX12_hours_35
      refine ⟨?_, ?_⟩
      · have h := h.1
        intro e1
        have h := h e1
        exact hk76 _ h
      · have h := h.2
        intro e2
        have h := h e2
        refine jaX12_waterGoes ?_ _ h
        intro μ4 h
        refine jaX12_move ?_ _ h
        intro μ5 h
        refine jaX12_jams ?_ _ h
        intro μ6 h
        refine jaX12_older ?_ _ h
        intro μ7 h
        refine jaX12_mills ?_ _ h
        intro μ8 h
        intro μ9 e3
        have h := h μ9 e3
        intro v10 e4
        have h := h v10 e4
        exact ih m _ _ _ h
set_option maxRecDepth 100000 in
set_option maxHeartbeats 4000000 in
theorem jfX12_hours_35 {I : km_S → Prop} (W : gw_ I [2, 6, 11, 12, 18, 19, 20, 25, 29, 30, 31, 32, 33, 34, 38, 39, 40, 41, 42, 43, 46, 50, 57, 68, 69, 1000]) {k76 : km_S → Prop} (hk76 : ∀ y0, I y0 → k76 y0) {Q : Int32 → km_S → Prop} (hQ : ∀ y0 y1, I y1 → Q y0 y1) : ∀ (n : Nat) (l1 : Int32) (l2 : Int32) (μ : km_S), I μ → vX12_hours_35 k76 Q n l1 l2 μ := by
  intro n
  induction n with
  | zero => intro l1 l2 μ i; exact trivial
  | succ n ih =>
    intro l1 l2 μ i
    unfold vX12_hours_35
    refine ⟨?_, ?_⟩
    · intro e1
      exact hk76 _ i
    · intro e2
      refine jfX12_waterGoes (I := I) (gw_sub W (by decide)) ?_ _ i
      intro μ4 iμ4
      refine jfX12_move (I := I) (gw_sub W (by decide)) ?_ _ iμ4
      intro μ5 iμ5
      refine jfX12_jams (I := I) (gw_sub W (by decide)) ?_ _ iμ5
      intro μ6 iμ6
      refine jfX12_older (I := I) (gw_sub W (by decide)) ?_ _ iμ6
      intro μ7 iμ7
      refine jfX12_mills (I := I) (gw_sub W (by decide)) ?_ _ iμ7
      intro μ8 iμ8
      intro μ9 e3
      have iμ9 : I μ9 := by rw [e3]; exact ((W _ iμ8) 2 (by decide)).1 _
      intro v10 e4
      exact ih _ _ _ iμ9
def vX12_hours (l1 : Int32) (μ : km_S) (Q : Int32 → km_S → Prop) : Prop := ∀ μ11, μ11 = km_si μ 1 0 → ((l1 < 0 → vX12_hours_28 Q μ11) ∧ (¬ (l1 < 0) → ((200 < l1 → vX12_hours_28 Q μ11) ∧ (¬ (200 < l1) → ((((km_i μ11 2) + l1) ≤ 20000 → ∀ j, vX12_hours_35 (vX12_hours_76 Q) Q j l1 0 μ11) ∧ (¬ (((km_i μ11 2) + l1) ≤ 20000) → vX12_hours_28 Q μ11))))))
set_option maxRecDepth 100000 in
set_option maxHeartbeats 4000000 in
theorem jcX12_hours {Q Q' Q'' : Int32 → km_S → Prop} (hQ : ∀ y0 y1, Q y0 y1 → Q' y0 y1 → Q'' y0 y1) : ∀ (l1 : Int32) (μ : km_S), wX12_hours l1 μ Q → vX12_hours l1 μ Q' → wX12_hours l1 μ Q'' := by
  intro l1 μ h v
  unfold wX12_hours at h
  unfold vX12_hours at v
  unfold wX12_hours
  intro μ11 e1
  have h := h μ11 e1
  have v := v μ11 e1
  refine ⟨?_, ?_⟩
  · have h := h.1
    have v := v.1
    intro e2
    have h := h e2
    have v := v e2
    exact jcX12_hours_28 hQ _ h v
  · have h := h.2
    have v := v.2
    intro e3
    have h := h e3
    have v := v e3
    refine ⟨?_, ?_⟩
    · have h := h.1
      have v := v.1
      intro e4
      have h := h e4
      have v := v e4
      exact jcX12_hours_28 hQ _ h v
    · have h := h.2
      have v := v.2
      intro e5
      have h := h e5
      have v := v e5
      refine ⟨?_, ?_⟩
      · have h := h.1
        have v := v.1
        intro e6
        have h := h e6
        have v := v e6
        obtain ⟨j, h⟩ := h
        refine ⟨j, ?_⟩
        have v := v j
        exact jcX12_hours_35 (k76 := wX12_hours_76 Q) (k76' := vX12_hours_76 Q') (k76'' := wX12_hours_76 Q'') (fun _ h v => jcX12_hours_76 hQ _ h v) hQ _ _ _ _ h v
      · have h := h.2
        have v := v.2
        intro e7
        have h := h e7
        have v := v e7
        exact jcX12_hours_28 hQ _ h v
set_option maxRecDepth 100000 in
set_option maxHeartbeats 4000000 in
theorem jaX12_hours {Q Q' : Int32 → km_S → Prop} (hQ : ∀ y0 y1, Q y0 y1 → Q' y0 y1) : ∀ (l1 : Int32) (μ : km_S), wX12_hours l1 μ Q → vX12_hours l1 μ Q' := by
  intro l1 μ h
  unfold wX12_hours at h
  unfold vX12_hours
  intro μ11 e1
  have h := h μ11 e1
  refine ⟨?_, ?_⟩
  · have h := h.1
    intro e2
    have h := h e2
    exact jaX12_hours_28 hQ _ h
  · have h := h.2
    intro e3
    have h := h e3
    refine ⟨?_, ?_⟩
    · have h := h.1
      intro e4
      have h := h e4
      exact jaX12_hours_28 hQ _ h
    · have h := h.2
      intro e5
      have h := h e5
      refine ⟨?_, ?_⟩
      · have h := h.1
        intro e6
        have h := h e6
        obtain ⟨j, h⟩ := h
        intro j9
        exact jaX12_hours_35 (k76 := wX12_hours_76 Q) (k76' := vX12_hours_76 Q') (fun _ h => jaX12_hours_76 hQ _ h) hQ _ j9 _ _ _ h
      · have h := h.2
        intro e7
        have h := h e7
        exact jaX12_hours_28 hQ _ h
set_option maxRecDepth 100000 in
set_option maxHeartbeats 4000000 in
theorem jfX12_hours {I : km_S → Prop} (W : gw_ I [1, 2, 6, 11, 12, 18, 19, 20, 25, 29, 30, 31, 32, 33, 34, 38, 39, 40, 41, 42, 43, 46, 50, 57, 68, 69, 1000]) {Q : Int32 → km_S → Prop} (hQ : ∀ y0 y1, I y1 → Q y0 y1) : ∀ (l1 : Int32) (μ : km_S), I μ → vX12_hours l1 μ Q := by
  intro l1 μ i
  unfold vX12_hours
  intro μ11 e1
  have iμ11 : I μ11 := by rw [e1]; exact ((W _ i) 1 (by decide)).1 _
  refine ⟨?_, ?_⟩
  · intro e2
    exact jfX12_hours_28 (I := I) (gw_sub W (by decide)) hQ _ iμ11
  · intro e3
    refine ⟨?_, ?_⟩
    · intro e4
      exact jfX12_hours_28 (I := I) (gw_sub W (by decide)) hQ _ iμ11
    · intro e5
      refine ⟨?_, ?_⟩
      · intro e6
        intro j
        exact jfX12_hours_35 (I := I) (gw_sub W (by decide)) (k76 := vX12_hours_76 Q) (fun _ i => jfX12_hours_76 (I := I) (gw_sub W (by decide)) hQ _ i) hQ _ _ _ _ iμ11
      · intro e7
        exact jfX12_hours_28 (I := I) (gw_sub W (by decide)) hQ _ iμ11
end
section
def vX12_isWord_28 (k29 : Nat → Int32 → km_S → Prop) (Q : Int32 → km_S → Prop) (l1 : Nat) (μ : km_S) : Prop := k29 l1 0 μ
set_option maxRecDepth 100000 in
set_option maxHeartbeats 4000000 in
theorem jcX12_isWord_28 {k29 k29' k29'' : Nat → Int32 → km_S → Prop} (hk29 : ∀ y0 y1 y2, k29 y0 y1 y2 → k29' y0 y1 y2 → k29'' y0 y1 y2) {Q Q' Q'' : Int32 → km_S → Prop} (hQ : ∀ y0 y1, Q y0 y1 → Q' y0 y1 → Q'' y0 y1) : ∀ (l1 : Nat) (μ : km_S), wX12_isWord_28 k29 Q l1 μ → vX12_isWord_28 k29' Q' l1 μ → wX12_isWord_28 k29'' Q'' l1 μ := by
  intro l1 μ h v
  unfold wX12_isWord_28 at h
  unfold vX12_isWord_28 at v
  unfold wX12_isWord_28
  exact hk29 _ _ _ h v
set_option maxRecDepth 100000 in
set_option maxHeartbeats 4000000 in
theorem jaX12_isWord_28 {k29 k29' : Nat → Int32 → km_S → Prop} (hk29 : ∀ y0 y1 y2, k29 y0 y1 y2 → k29' y0 y1 y2) {Q Q' : Int32 → km_S → Prop} (hQ : ∀ y0 y1, Q y0 y1 → Q' y0 y1) : ∀ (l1 : Nat) (μ : km_S), wX12_isWord_28 k29 Q l1 μ → vX12_isWord_28 k29' Q' l1 μ := by
  intro l1 μ h
  unfold wX12_isWord_28 at h
  unfold vX12_isWord_28
  exact hk29 _ _ _ h
set_option maxRecDepth 100000 in
set_option maxHeartbeats 4000000 in
theorem jfX12_isWord_28 {I : km_S → Prop} (W : gw_ I []) {k29 : Nat → Int32 → km_S → Prop} (hk29 : ∀ y0 y1 y2, I y2 → k29 y0 y1 y2) {Q : Int32 → km_S → Prop} (hQ : ∀ y0 y1, I y1 → Q y0 y1) : ∀ (l1 : Nat) (μ : km_S), I μ → vX12_isWord_28 k29 Q l1 μ := by
  intro l1 μ i
  unfold vX12_isWord_28
  exact hk29 _ _ _ i
def vX12_isWord_68 (k32 : Nat → Int32 → Int32 → km_S → Prop) (Q : Int32 → km_S → Prop) (l1 : Nat) (l3 : Int32) (s0 : Int32) (μ : km_S) : Prop := ∀ v1 : Int32, v1 = l3 + 1 → k32 l1 s0 v1 μ
set_option maxRecDepth 100000 in
set_option maxHeartbeats 4000000 in
theorem jcX12_isWord_68 {k32 k32' k32'' : Nat → Int32 → Int32 → km_S → Prop} (hk32 : ∀ y0 y1 y2 y3, k32 y0 y1 y2 y3 → k32' y0 y1 y2 y3 → k32'' y0 y1 y2 y3) {Q Q' Q'' : Int32 → km_S → Prop} (hQ : ∀ y0 y1, Q y0 y1 → Q' y0 y1 → Q'' y0 y1) : ∀ (l1 : Nat) (l3 : Int32) (s0 : Int32) (μ : km_S), wX12_isWord_68 k32 Q l1 l3 s0 μ → vX12_isWord_68 k32' Q' l1 l3 s0 μ → wX12_isWord_68 k32'' Q'' l1 l3 s0 μ := by
  intro l1 l3 s0 μ h v
  unfold wX12_isWord_68 at h
  unfold vX12_isWord_68 at v
  unfold wX12_isWord_68
  intro v1 e1
  have h := h v1 e1
  have v := v v1 e1
  exact hk32 _ _ _ _ h v
set_option maxRecDepth 100000 in
set_option maxHeartbeats 4000000 in
theorem jaX12_isWord_68 {k32 k32' : Nat → Int32 → Int32 → km_S → Prop} (hk32 : ∀ y0 y1 y2 y3, k32 y0 y1 y2 y3 → k32' y0 y1 y2 y3) {Q Q' : Int32 → km_S → Prop} (hQ : ∀ y0 y1, Q y0 y1 → Q' y0 y1) : ∀ (l1 : Nat) (l3 : Int32) (s0 : Int32) (μ : km_S), wX12_isWord_68 k32 Q l1 l3 s0 μ → vX12_isWord_68 k32' Q' l1 l3 s0 μ := by
  intro l1 l3 s0 μ h
  unfold wX12_isWord_68 at h
  unfold vX12_isWord_68
  intro v1 e1
  have h := h v1 e1
  exact hk32 _ _ _ _ h
set_option maxRecDepth 100000 in
set_option maxHeartbeats 4000000 in
theorem jfX12_isWord_68 {I : km_S → Prop} (W : gw_ I []) {k32 : Nat → Int32 → Int32 → km_S → Prop} (hk32 : ∀ y0 y1 y2 y3, I y3 → k32 y0 y1 y2 y3) {Q : Int32 → km_S → Prop} (hQ : ∀ y0 y1, I y1 → Q y0 y1) : ∀ (l1 : Nat) (l3 : Int32) (s0 : Int32) (μ : km_S), I μ → vX12_isWord_68 k32 Q l1 l3 s0 μ := by
  intro l1 l3 s0 μ i
  unfold vX12_isWord_68
  intro v1 e1
  exact hk32 _ _ _ _ i
def vX12_isWord_32 (Q : Int32 → km_S → Prop) : Nat → Nat → Int32 → Int32 → km_S → Prop
  | 0, _, _, _, _ => True
  | n + 1, l1, l2, l3, μ => ((l2 = 0 → narrow .boolean (.int l2) = .int l2 → Q l2 μ) ∧ (¬ (l2 = 0) → l1 < 12 → (((nI (ks_len.getD l1 0)) ≤ l3 → narrow .boolean (.int l2) = .int l2 → Q l2 μ) ∧ (¬ ((nI (ks_len.getD l1 0)) ≤ l3) → l1 < 12 → vp_in l3 (ks_len.getD l1 0) → vp_in ((km_i μ 64) + l3) 500 → ((¬ ((ks_byt.getD l1 []).getD l3.toNatClampNeg 0) = (km_a μ 52 ((km_i μ 64) + l3).toNatClampNeg) → vX12_isWord_68 (vX12_isWord_32 Q n) Q l1 l3 0 μ) ∧ (((ks_byt.getD l1 []).getD l3.toNatClampNeg 0) = (km_a μ 52 ((km_i μ 64) + l3).toNatClampNeg) → vX12_isWord_68 (vX12_isWord_32 Q n) Q l1 l3 1 μ))))))
set_option maxRecDepth 100000 in
set_option maxHeartbeats 4000000 in
theorem jcX12_isWord_32 {Q Q' Q'' : Int32 → km_S → Prop} (hQ : ∀ y0 y1, Q y0 y1 → Q' y0 y1 → Q'' y0 y1) : ∀ (n : Nat) (l1 : Nat) (l2 : Int32) (l3 : Int32) (μ : km_S), wX12_isWord_32 Q n l1 l2 l3 μ → vX12_isWord_32 Q' n l1 l2 l3 μ → wX12_isWord_32 Q'' n l1 l2 l3 μ := by
  intro n
  induction n with
  | zero => intro l1 l2 l3 μ h; exact h.elim
  | succ n ih =>
    intro l1 l2 l3 μ h v
    unfold wX12_isWord_32 at h
    unfold vX12_isWord_32 at v
    unfold wX12_isWord_32
    refine ⟨?_, ?_⟩
    · have h := h.1
      have v := v.1
      intro e1
      have h := h e1
      have v := v e1
      refine ⟨h.1, ?_⟩
      have v := v h.1
      have h := h.2
      exact hQ _ _ h v
    · have h := h.2
      have v := v.2
      intro e3
      have h := h e3
      have v := v e3
      refine ⟨h.1, ?_⟩
      have v := v h.1
      have h := h.2
      refine ⟨?_, ?_⟩
      · have h := h.1
        have v := v.1
        intro e5
        have h := h e5
        have v := v e5
        refine ⟨h.1, ?_⟩
        have v := v h.1
        have h := h.2
        exact hQ _ _ h v
      · have h := h.2
        have v := v.2
        intro e7
        have h := h e7
        have v := v e7
        refine ⟨h.1, ?_⟩
        have v := v h.1
        have h := h.2
        refine ⟨h.1, ?_⟩
        have v := v h.1
        have h := h.2
        refine ⟨h.1, ?_⟩
        have v := v h.1
        have h := h.2
        refine ⟨?_, ?_⟩
        · have h := h.1
          have v := v.1
          intro e11
          have h := h e11
          have v := v e11
          exact jcX12_isWord_68 (k32 := wX12_isWord_32 Q n) (k32' := vX12_isWord_32 Q' n) (k32'' := wX12_isWord_32 Q'' n) (fun _ _ _ _ h v => ih _ _ _ _ h v) hQ _ _ _ _ h v
        · have h := h.2
          have v := v.2
          intro e12
          have h := h e12
          have v := v e12
          exact jcX12_isWord_68 (k32 := wX12_isWord_32 Q n) (k32' := vX12_isWord_32 Q' n) (k32'' := wX12_isWord_32 Q'' n) (fun _ _ _ _ h v => ih _ _ _ _ h v) hQ _ _ _ _ h v
set_option maxRecDepth 100000 in
set_option maxHeartbeats 4000000 in
theorem jaX12_isWord_32 {Q Q' : Int32 → km_S → Prop} (hQ : ∀ y0 y1, Q y0 y1 → Q' y0 y1) : ∀ (n m : Nat) (l1 : Nat) (l2 : Int32) (l3 : Int32) (μ : km_S), wX12_isWord_32 Q n l1 l2 l3 μ → vX12_isWord_32 Q' m l1 l2 l3 μ := by
  intro n
  induction n with
  | zero => intro m l1 l2 l3 μ h; exact h.elim
  | succ n ih =>
    intro m l1 l2 l3 μ h
    cases m with
    | zero => exact trivial
    | succ m =>
      unfold wX12_isWord_32 at h
      unfold vX12_isWord_32
      refine ⟨?_, ?_⟩
      · have h := h.1
        intro e1
        have h := h e1
        intro e2
        have h := h.2
        exact hQ _ _ h
      · have h := h.2
        intro e3
        have h := h e3
        intro e4
        have h := h.2
        refine ⟨?_, ?_⟩
        · have h := h.1
          intro e5
          have h := h e5
          intro e6
          have h := h.2
          exact hQ _ _ h
        · have h := h.2
          intro e7
          have h := h e7
          intro e8
          have h := h.2
          intro e9
          have h := h.2
          intro e10
          have h := h.2
          refine ⟨?_, ?_⟩
          · have h := h.1
            intro e11
            have h := h e11
            exact jaX12_isWord_68 (k32 := wX12_isWord_32 Q n) (k32' := vX12_isWord_32 Q' m) (fun _ _ _ _ h => ih m _ _ _ _ h) hQ _ _ _ _ h
          · have h := h.2
            intro e12
            have h := h e12
            exact jaX12_isWord_68 (k32 := wX12_isWord_32 Q n) (k32' := vX12_isWord_32 Q' m) (fun _ _ _ _ h => ih m _ _ _ _ h) hQ _ _ _ _ h
set_option maxRecDepth 100000 in
set_option maxHeartbeats 4000000 in
theorem jfX12_isWord_32 {I : km_S → Prop} (W : gw_ I []) {Q : Int32 → km_S → Prop} (hQ : ∀ y0 y1, I y1 → Q y0 y1) : ∀ (n : Nat) (l1 : Nat) (l2 : Int32) (l3 : Int32) (μ : km_S), I μ → vX12_isWord_32 Q n l1 l2 l3 μ := by
  intro n
  induction n with
  | zero => intro l1 l2 l3 μ i; exact trivial
  | succ n ih =>
    intro l1 l2 l3 μ i
    unfold vX12_isWord_32
    refine ⟨?_, ?_⟩
    · intro e1
      intro e2
      exact hQ _ _ i
    · intro e3
      intro e4
      refine ⟨?_, ?_⟩
      · intro e5
        intro e6
        exact hQ _ _ i
      · intro e7
        intro e8
        intro e9
        intro e10
        refine ⟨?_, ?_⟩
        · intro e11
          exact jfX12_isWord_68 (I := I) (gw_sub W (by decide)) (k32 := vX12_isWord_32 Q n) (fun _ _ _ _ i => ih _ _ _ _ i) hQ _ _ _ _ i
        · intro e12
          exact jfX12_isWord_68 (I := I) (gw_sub W (by decide)) (k32 := vX12_isWord_32 Q n) (fun _ _ _ _ i => ih _ _ _ _ i) hQ _ _ _ _ i
def vX12_isWord_29 (Q : Int32 → km_S → Prop) (l1 : Nat) (s0 : Int32) (μ : km_S) : Prop := ∀ j, vX12_isWord_32 Q j l1 s0 0 μ
set_option maxRecDepth 100000 in
set_option maxHeartbeats 4000000 in
theorem jcX12_isWord_29 {Q Q' Q'' : Int32 → km_S → Prop} (hQ : ∀ y0 y1, Q y0 y1 → Q' y0 y1 → Q'' y0 y1) : ∀ (l1 : Nat) (s0 : Int32) (μ : km_S), wX12_isWord_29 Q l1 s0 μ → vX12_isWord_29 Q' l1 s0 μ → wX12_isWord_29 Q'' l1 s0 μ := by
  intro l1 s0 μ h v
  unfold wX12_isWord_29 at h
  unfold vX12_isWord_29 at v
  unfold wX12_isWord_29
  obtain ⟨j, h⟩ := h
  refine ⟨j, ?_⟩
  have v := v j
  exact jcX12_isWord_32 hQ _ _ _ _ _ h v
set_option maxRecDepth 100000 in
set_option maxHeartbeats 4000000 in
theorem jaX12_isWord_29 {Q Q' : Int32 → km_S → Prop} (hQ : ∀ y0 y1, Q y0 y1 → Q' y0 y1) : ∀ (l1 : Nat) (s0 : Int32) (μ : km_S), wX12_isWord_29 Q l1 s0 μ → vX12_isWord_29 Q' l1 s0 μ := by
  intro l1 s0 μ h
  unfold wX12_isWord_29 at h
  unfold vX12_isWord_29
  obtain ⟨j, h⟩ := h
  intro j9
  exact jaX12_isWord_32 hQ _ j9 _ _ _ _ h
set_option maxRecDepth 100000 in
set_option maxHeartbeats 4000000 in
theorem jfX12_isWord_29 {I : km_S → Prop} (W : gw_ I []) {Q : Int32 → km_S → Prop} (hQ : ∀ y0 y1, I y1 → Q y0 y1) : ∀ (l1 : Nat) (s0 : Int32) (μ : km_S), I μ → vX12_isWord_29 Q l1 s0 μ := by
  intro l1 s0 μ i
  unfold vX12_isWord_29
  intro j
  exact jfX12_isWord_32 (I := I) (gw_sub W (by decide)) hQ _ _ _ _ _ i
def vX12_isWord (l1 : Nat) (μ : km_S) (Q : Int32 → km_S → Prop) : Prop := ((¬ (km_i μ 62) = 1 → vX12_isWord_28 (vX12_isWord_29 Q) Q l1 μ) ∧ ((km_i μ 62) = 1 → l1 < 12 → ((¬ (nI (ks_len.getD l1 0)) = ((km_i μ 65) - (km_i μ 64)) → vX12_isWord_28 (vX12_isWord_29 Q) Q l1 μ) ∧ ((nI (ks_len.getD l1 0)) = ((km_i μ 65) - (km_i μ 64)) → vX12_isWord_29 Q l1 1 μ))))
set_option maxRecDepth 100000 in
set_option maxHeartbeats 4000000 in
theorem jcX12_isWord {Q Q' Q'' : Int32 → km_S → Prop} (hQ : ∀ y0 y1, Q y0 y1 → Q' y0 y1 → Q'' y0 y1) : ∀ (l1 : Nat) (μ : km_S), wX12_isWord l1 μ Q → vX12_isWord l1 μ Q' → wX12_isWord l1 μ Q'' := by
  intro l1 μ h v
  unfold wX12_isWord at h
  unfold vX12_isWord at v
  unfold wX12_isWord
  refine ⟨?_, ?_⟩
  · have h := h.1
    have v := v.1
    intro e1
    have h := h e1
    have v := v e1
    exact jcX12_isWord_28 (k29 := wX12_isWord_29 Q) (k29' := vX12_isWord_29 Q') (k29'' := wX12_isWord_29 Q'') (fun _ _ _ h v => jcX12_isWord_29 hQ _ _ _ h v) hQ _ _ h v
  · have h := h.2
    have v := v.2
    intro e2
    have h := h e2
    have v := v e2
    refine ⟨h.1, ?_⟩
    have v := v h.1
    have h := h.2
    refine ⟨?_, ?_⟩
    · have h := h.1
      have v := v.1
      intro e4
      have h := h e4
      have v := v e4
      exact jcX12_isWord_28 (k29 := wX12_isWord_29 Q) (k29' := vX12_isWord_29 Q') (k29'' := wX12_isWord_29 Q'') (fun _ _ _ h v => jcX12_isWord_29 hQ _ _ _ h v) hQ _ _ h v
    · have h := h.2
      have v := v.2
      intro e5
      have h := h e5
      have v := v e5
      exact jcX12_isWord_29 hQ _ _ _ h v
set_option maxRecDepth 100000 in
set_option maxHeartbeats 4000000 in
theorem jaX12_isWord {Q Q' : Int32 → km_S → Prop} (hQ : ∀ y0 y1, Q y0 y1 → Q' y0 y1) : ∀ (l1 : Nat) (μ : km_S), wX12_isWord l1 μ Q → vX12_isWord l1 μ Q' := by
  intro l1 μ h
  unfold wX12_isWord at h
  unfold vX12_isWord
  refine ⟨?_, ?_⟩
  · have h := h.1
    intro e1
    have h := h e1
    exact jaX12_isWord_28 (k29 := wX12_isWord_29 Q) (k29' := vX12_isWord_29 Q') (fun _ _ _ h => jaX12_isWord_29 hQ _ _ _ h) hQ _ _ h
  · have h := h.2
    intro e2
    have h := h e2
    intro e3
    have h := h.2
    refine ⟨?_, ?_⟩
    · have h := h.1
      intro e4
      have h := h e4
      exact jaX12_isWord_28 (k29 := wX12_isWord_29 Q) (k29' := vX12_isWord_29 Q') (fun _ _ _ h => jaX12_isWord_29 hQ _ _ _ h) hQ _ _ h
    · have h := h.2
      intro e5
      have h := h e5
      exact jaX12_isWord_29 hQ _ _ _ h
set_option maxRecDepth 100000 in
set_option maxHeartbeats 4000000 in
theorem jfX12_isWord {I : km_S → Prop} (W : gw_ I []) {Q : Int32 → km_S → Prop} (hQ : ∀ y0 y1, I y1 → Q y0 y1) : ∀ (l1 : Nat) (μ : km_S), I μ → vX12_isWord l1 μ Q := by
  intro l1 μ i
  unfold vX12_isWord
  refine ⟨?_, ?_⟩
  · intro e1
    exact jfX12_isWord_28 (I := I) (gw_sub W (by decide)) (k29 := vX12_isWord_29 Q) (fun _ _ _ i => jfX12_isWord_29 (I := I) (gw_sub W (by decide)) hQ _ _ _ i) hQ _ _ i
  · intro e2
    intro e3
    refine ⟨?_, ?_⟩
    · intro e4
      exact jfX12_isWord_28 (I := I) (gw_sub W (by decide)) (k29 := vX12_isWord_29 Q) (fun _ _ _ i => jfX12_isWord_29 (I := I) (gw_sub W (by decide)) hQ _ _ _ i) hQ _ _ i
    · intro e5
      exact jfX12_isWord_29 (I := I) (gw_sub W (by decide)) hQ _ _ _ i
def vX12_readPart_124 (re : Int32 → km_S → (km_S → Prop) → Prop) (k103 : Int32 → Int32 → km_S → Prop) (Q : km_S → Prop) (l2 : Int32) (l3 : Int32) (μ : km_S) : Prop := ∀ v1 : Int32, v1 = l3 + 1 → k103 l2 v1 μ
set_option maxRecDepth 100000 in
set_option maxHeartbeats 4000000 in
theorem jcX12_readPart_124 {re re' : Int32 → km_S → (km_S → Prop) → Prop} (hre : ∀ {P P' P'' : km_S → Prop}, (∀ y0, P y0 → P' y0 → P'' y0) → ∀ (x0 : Int32) (x1 : km_S), re x0 x1 P → re' x0 x1 P' → re x0 x1 P'') {k103 k103' k103'' : Int32 → Int32 → km_S → Prop} (hk103 : ∀ y0 y1 y2, k103 y0 y1 y2 → k103' y0 y1 y2 → k103'' y0 y1 y2) {Q Q' Q'' : km_S → Prop} (hQ : ∀ y0, Q y0 → Q' y0 → Q'' y0) : ∀ (l2 : Int32) (l3 : Int32) (μ : km_S), wX12_readPart_124 re k103 Q l2 l3 μ → vX12_readPart_124 re' k103' Q' l2 l3 μ → wX12_readPart_124 re k103'' Q'' l2 l3 μ := by
  intro l2 l3 μ h v
  unfold wX12_readPart_124 at h
  unfold vX12_readPart_124 at v
  unfold wX12_readPart_124
  intro v1 e1
  have h := h v1 e1
  have v := v v1 e1
  exact hk103 _ _ _ h v
set_option maxRecDepth 100000 in
set_option maxHeartbeats 4000000 in
theorem jaX12_readPart_124 {re re' : Int32 → km_S → (km_S → Prop) → Prop} (hre : ∀ {P P' : km_S → Prop}, (∀ y0, P y0 → P' y0) → ∀ (x0 : Int32) (x1 : km_S), re x0 x1 P → re' x0 x1 P') {k103 k103' : Int32 → Int32 → km_S → Prop} (hk103 : ∀ y0 y1 y2, k103 y0 y1 y2 → k103' y0 y1 y2) {Q Q' : km_S → Prop} (hQ : ∀ y0, Q y0 → Q' y0) : ∀ (l2 : Int32) (l3 : Int32) (μ : km_S), wX12_readPart_124 re k103 Q l2 l3 μ → vX12_readPart_124 re' k103' Q' l2 l3 μ := by
  intro l2 l3 μ h
  unfold wX12_readPart_124 at h
  unfold vX12_readPart_124
  intro v1 e1
  have h := h v1 e1
  exact hk103 _ _ _ h
set_option maxRecDepth 100000 in
set_option maxHeartbeats 4000000 in
theorem jfX12_readPart_124 {I : km_S → Prop} (W : gw_ I [56, 59, 60, 62, 63, 64, 65, 66, 67]) {re : Int32 → km_S → (km_S → Prop) → Prop} (hre : ∀ {P : km_S → Prop}, (∀ y0, I y0 → P y0) → ∀ (x0 : Int32) (x1 : km_S), I x1 → re x0 x1 P) {k103 : Int32 → Int32 → km_S → Prop} (hk103 : ∀ y0 y1 y2, I y2 → k103 y0 y1 y2) {Q : km_S → Prop} (hQ : ∀ y0, I y0 → Q y0) : ∀ (l2 : Int32) (l3 : Int32) (μ : km_S), I μ → vX12_readPart_124 re k103 Q l2 l3 μ := by
  intro l2 l3 μ i
  unfold vX12_readPart_124
  intro v1 e1
  exact hk103 _ _ _ i
def vX12_readPart_200 (re : Int32 → km_S → (km_S → Prop) → Prop) (Q : km_S → Prop) (μ : km_S) : Prop := ((¬ (km_i μ 66) = 0 → Q μ) ∧ ((km_i μ 66) = 0 → vX12_step μ (fun μ3 => Q μ3)))
set_option maxRecDepth 100000 in
set_option maxHeartbeats 4000000 in
theorem jcX12_readPart_200 {re re' : Int32 → km_S → (km_S → Prop) → Prop} (hre : ∀ {P P' P'' : km_S → Prop}, (∀ y0, P y0 → P' y0 → P'' y0) → ∀ (x0 : Int32) (x1 : km_S), re x0 x1 P → re' x0 x1 P' → re x0 x1 P'') {Q Q' Q'' : km_S → Prop} (hQ : ∀ y0, Q y0 → Q' y0 → Q'' y0) : ∀ (μ : km_S), wX12_readPart_200 re Q μ → vX12_readPart_200 re' Q' μ → wX12_readPart_200 re Q'' μ := by
  intro μ h v
  unfold wX12_readPart_200 at h
  unfold vX12_readPart_200 at v
  unfold wX12_readPart_200
  refine ⟨?_, ?_⟩
  · have h := h.1
    have v := v.1
    intro e1
    have h := h e1
    have v := v e1
    exact hQ _ h v
  · have h := h.2
    have v := v.2
    intro e2
    have h := h e2
    have v := v e2
    refine jcX12_step ?_ _ h v
    intro μ3 h v
    exact hQ _ h v
set_option maxRecDepth 100000 in
set_option maxHeartbeats 4000000 in
theorem jaX12_readPart_200 {re re' : Int32 → km_S → (km_S → Prop) → Prop} (hre : ∀ {P P' : km_S → Prop}, (∀ y0, P y0 → P' y0) → ∀ (x0 : Int32) (x1 : km_S), re x0 x1 P → re' x0 x1 P') {Q Q' : km_S → Prop} (hQ : ∀ y0, Q y0 → Q' y0) : ∀ (μ : km_S), wX12_readPart_200 re Q μ → vX12_readPart_200 re' Q' μ := by
  intro μ h
  unfold wX12_readPart_200 at h
  unfold vX12_readPart_200
  refine ⟨?_, ?_⟩
  · have h := h.1
    intro e1
    have h := h e1
    exact hQ _ h
  · have h := h.2
    intro e2
    have h := h e2
    refine jaX12_step ?_ _ h
    intro μ3 h
    exact hQ _ h
set_option maxRecDepth 100000 in
set_option maxHeartbeats 4000000 in
theorem jfX12_readPart_200 {I : km_S → Prop} (W : gw_ I [56, 59, 60, 62, 63, 64, 65, 66, 67]) {re : Int32 → km_S → (km_S → Prop) → Prop} (hre : ∀ {P : km_S → Prop}, (∀ y0, I y0 → P y0) → ∀ (x0 : Int32) (x1 : km_S), I x1 → re x0 x1 P) {Q : km_S → Prop} (hQ : ∀ y0, I y0 → Q y0) : ∀ (μ : km_S), I μ → vX12_readPart_200 re Q μ := by
  intro μ i
  unfold vX12_readPart_200
  refine ⟨?_, ?_⟩
  · intro e1
    exact hQ _ i
  · intro e2
    refine jfX12_step (I := I) (gw_sub W (by decide)) ?_ _ i
    intro μ3 iμ3
    exact hQ _ iμ3
def vX12_readPart_140 (re : Int32 → km_S → (km_S → Prop) → Prop) (k200 : km_S → Prop) (Q : km_S → Prop) (l2 : Int32) (μ : km_S) : Prop := vX12_emit (20 + l2) μ (fun μ4 => k200 μ4)
set_option maxRecDepth 100000 in
set_option maxHeartbeats 4000000 in
theorem jcX12_readPart_140 {re re' : Int32 → km_S → (km_S → Prop) → Prop} (hre : ∀ {P P' P'' : km_S → Prop}, (∀ y0, P y0 → P' y0 → P'' y0) → ∀ (x0 : Int32) (x1 : km_S), re x0 x1 P → re' x0 x1 P' → re x0 x1 P'') {k200 k200' k200'' : km_S → Prop} (hk200 : ∀ y0, k200 y0 → k200' y0 → k200'' y0) {Q Q' Q'' : km_S → Prop} (hQ : ∀ y0, Q y0 → Q' y0 → Q'' y0) : ∀ (l2 : Int32) (μ : km_S), wX12_readPart_140 re k200 Q l2 μ → vX12_readPart_140 re' k200' Q' l2 μ → wX12_readPart_140 re k200'' Q'' l2 μ := by
  intro l2 μ h v
  unfold wX12_readPart_140 at h
  unfold vX12_readPart_140 at v
  unfold wX12_readPart_140
  refine jcX12_emit ?_ _ _ h v
  intro μ4 h v
  exact hk200 _ h v
set_option maxRecDepth 100000 in
set_option maxHeartbeats 4000000 in
theorem jaX12_readPart_140 {re re' : Int32 → km_S → (km_S → Prop) → Prop} (hre : ∀ {P P' : km_S → Prop}, (∀ y0, P y0 → P' y0) → ∀ (x0 : Int32) (x1 : km_S), re x0 x1 P → re' x0 x1 P') {k200 k200' : km_S → Prop} (hk200 : ∀ y0, k200 y0 → k200' y0) {Q Q' : km_S → Prop} (hQ : ∀ y0, Q y0 → Q' y0) : ∀ (l2 : Int32) (μ : km_S), wX12_readPart_140 re k200 Q l2 μ → vX12_readPart_140 re' k200' Q' l2 μ := by
  intro l2 μ h
  unfold wX12_readPart_140 at h
  unfold vX12_readPart_140
  refine jaX12_emit ?_ _ _ h
  intro μ4 h
  exact hk200 _ h
set_option maxRecDepth 100000 in
set_option maxHeartbeats 4000000 in
theorem jfX12_readPart_140 {I : km_S → Prop} (W : gw_ I [56, 59, 60, 62, 63, 64, 65, 66, 67]) {re : Int32 → km_S → (km_S → Prop) → Prop} (hre : ∀ {P : km_S → Prop}, (∀ y0, I y0 → P y0) → ∀ (x0 : Int32) (x1 : km_S), I x1 → re x0 x1 P) {k200 : km_S → Prop} (hk200 : ∀ y0, I y0 → k200 y0) {Q : km_S → Prop} (hQ : ∀ y0, I y0 → Q y0) : ∀ (l2 : Int32) (μ : km_S), I μ → vX12_readPart_140 re k200 Q l2 μ := by
  intro l2 μ i
  unfold vX12_readPart_140
  refine jfX12_emit (I := I) (gw_sub W (by decide)) ?_ _ _ i
  intro μ4 iμ4
  exact hk200 _ iμ4
def vX12_readPart_78 (re : Int32 → km_S → (km_S → Prop) → Prop) (k200 : km_S → Prop) (Q : km_S → Prop) (l2 : Int32) (μ : km_S) : Prop := vX12_emit 0 μ (fun μ5 => vX12_emit l2 μ5 (fun μ6 => k200 μ6))
set_option maxRecDepth 100000 in
set_option maxHeartbeats 4000000 in
theorem jcX12_readPart_78 {re re' : Int32 → km_S → (km_S → Prop) → Prop} (hre : ∀ {P P' P'' : km_S → Prop}, (∀ y0, P y0 → P' y0 → P'' y0) → ∀ (x0 : Int32) (x1 : km_S), re x0 x1 P → re' x0 x1 P' → re x0 x1 P'') {k200 k200' k200'' : km_S → Prop} (hk200 : ∀ y0, k200 y0 → k200' y0 → k200'' y0) {Q Q' Q'' : km_S → Prop} (hQ : ∀ y0, Q y0 → Q' y0 → Q'' y0) : ∀ (l2 : Int32) (μ : km_S), wX12_readPart_78 re k200 Q l2 μ → vX12_readPart_78 re' k200' Q' l2 μ → wX12_readPart_78 re k200'' Q'' l2 μ := by
  intro l2 μ h v
  unfold wX12_readPart_78 at h
  unfold vX12_readPart_78 at v
  unfold wX12_readPart_78
  refine jcX12_emit ?_ _ _ h v
  intro μ5 h v
  refine jcX12_emit ?_ _ _ h v
  intro μ6 h v
  exact hk200 _ h v
set_option maxRecDepth 100000 in
set_option maxHeartbeats 4000000 in
theorem jaX12_readPart_78 {re re' : Int32 → km_S → (km_S → Prop) → Prop} (hre : ∀ {P P' : km_S → Prop}, (∀ y0, P y0 → P' y0) → ∀ (x0 : Int32) (x1 : km_S), re x0 x1 P → re' x0 x1 P') {k200 k200' : km_S → Prop} (hk200 : ∀ y0, k200 y0 → k200' y0) {Q Q' : km_S → Prop} (hQ : ∀ y0, Q y0 → Q' y0) : ∀ (l2 : Int32) (μ : km_S), wX12_readPart_78 re k200 Q l2 μ → vX12_readPart_78 re' k200' Q' l2 μ := by
  intro l2 μ h
  unfold wX12_readPart_78 at h
  unfold vX12_readPart_78
  refine jaX12_emit ?_ _ _ h
  intro μ5 h
  refine jaX12_emit ?_ _ _ h
  intro μ6 h
  exact hk200 _ h
set_option maxRecDepth 100000 in
set_option maxHeartbeats 4000000 in
theorem jfX12_readPart_78 {I : km_S → Prop} (W : gw_ I [56, 59, 60, 62, 63, 64, 65, 66, 67]) {re : Int32 → km_S → (km_S → Prop) → Prop} (hre : ∀ {P : km_S → Prop}, (∀ y0, I y0 → P y0) → ∀ (x0 : Int32) (x1 : km_S), I x1 → re x0 x1 P) {k200 : km_S → Prop} (hk200 : ∀ y0, I y0 → k200 y0) {Q : km_S → Prop} (hQ : ∀ y0, I y0 → Q y0) : ∀ (l2 : Int32) (μ : km_S), I μ → vX12_readPart_78 re k200 Q l2 μ := by
  intro l2 μ i
  unfold vX12_readPart_78
  refine jfX12_emit (I := I) (gw_sub W (by decide)) ?_ _ _ i
  intro μ5 iμ5
  refine jfX12_emit (I := I) (gw_sub W (by decide)) ?_ _ _ iμ5
  intro μ6 iμ6
  exact hk200 _ iμ6
def vX12_readPart_130 (re : Int32 → km_S → (km_S → Prop) → Prop) (k200 : km_S → Prop) (Q : km_S → Prop) (l2 : Int32) (μ : km_S) : Prop := ((¬ l2 = (-1) → vX12_readPart_140 re k200 Q l2 μ) ∧ (l2 = (-1) → vX12_wrong 3 μ (fun μ8 => vX12_readPart_140 re k200 Q l2 μ8)))
set_option maxRecDepth 100000 in
set_option maxHeartbeats 4000000 in
theorem jcX12_readPart_130 {re re' : Int32 → km_S → (km_S → Prop) → Prop} (hre : ∀ {P P' P'' : km_S → Prop}, (∀ y0, P y0 → P' y0 → P'' y0) → ∀ (x0 : Int32) (x1 : km_S), re x0 x1 P → re' x0 x1 P' → re x0 x1 P'') {k200 k200' k200'' : km_S → Prop} (hk200 : ∀ y0, k200 y0 → k200' y0 → k200'' y0) {Q Q' Q'' : km_S → Prop} (hQ : ∀ y0, Q y0 → Q' y0 → Q'' y0) : ∀ (l2 : Int32) (μ : km_S), wX12_readPart_130 re k200 Q l2 μ → vX12_readPart_130 re' k200' Q' l2 μ → wX12_readPart_130 re k200'' Q'' l2 μ := by
  intro l2 μ h v
  unfold wX12_readPart_130 at h
  unfold vX12_readPart_130 at v
  unfold wX12_readPart_130
  refine ⟨?_, ?_⟩
  · have h := h.1
    have v := v.1
    intro e1
    have h := h e1
    have v := v e1
    exact jcX12_readPart_140 hre hk200 hQ _ _ h v
  · have h := h.2
    have v := v.2
    intro e2
    have h := h e2
    have v := v e2
    refine jcX12_wrong ?_ _ _ h v
    intro μ8 h v
    exact jcX12_readPart_140 hre hk200 hQ _ _ h v
set_option maxRecDepth 100000 in
set_option maxHeartbeats 4000000 in
theorem jaX12_readPart_130 {re re' : Int32 → km_S → (km_S → Prop) → Prop} (hre : ∀ {P P' : km_S → Prop}, (∀ y0, P y0 → P' y0) → ∀ (x0 : Int32) (x1 : km_S), re x0 x1 P → re' x0 x1 P') {k200 k200' : km_S → Prop} (hk200 : ∀ y0, k200 y0 → k200' y0) {Q Q' : km_S → Prop} (hQ : ∀ y0, Q y0 → Q' y0) : ∀ (l2 : Int32) (μ : km_S), wX12_readPart_130 re k200 Q l2 μ → vX12_readPart_130 re' k200' Q' l2 μ := by
  intro l2 μ h
  unfold wX12_readPart_130 at h
  unfold vX12_readPart_130
  refine ⟨?_, ?_⟩
  · have h := h.1
    intro e1
    have h := h e1
    exact jaX12_readPart_140 hre hk200 hQ _ _ h
  · have h := h.2
    intro e2
    have h := h e2
    refine jaX12_wrong ?_ _ _ h
    intro μ8 h
    exact jaX12_readPart_140 hre hk200 hQ _ _ h
set_option maxRecDepth 100000 in
set_option maxHeartbeats 4000000 in
theorem jfX12_readPart_130 {I : km_S → Prop} (W : gw_ I [56, 59, 60, 62, 63, 64, 65, 66, 67]) {re : Int32 → km_S → (km_S → Prop) → Prop} (hre : ∀ {P : km_S → Prop}, (∀ y0, I y0 → P y0) → ∀ (x0 : Int32) (x1 : km_S), I x1 → re x0 x1 P) {k200 : km_S → Prop} (hk200 : ∀ y0, I y0 → k200 y0) {Q : km_S → Prop} (hQ : ∀ y0, I y0 → Q y0) : ∀ (l2 : Int32) (μ : km_S), I μ → vX12_readPart_130 re k200 Q l2 μ := by
  intro l2 μ i
  unfold vX12_readPart_130
  refine ⟨?_, ?_⟩
  · intro e1
    exact jfX12_readPart_140 (I := I) (gw_sub W (by decide)) hre hk200 hQ _ _ i
  · intro e2
    refine jfX12_wrong (I := I) (gw_sub W (by decide)) ?_ _ _ i
    intro μ8 iμ8
    exact jfX12_readPart_140 (I := I) (gw_sub W (by decide)) hre hk200 hQ _ _ iμ8
def vX12_readPart_103 (re : Int32 → km_S → (km_S → Prop) → Prop) (k130 : Int32 → km_S → Prop) (Q : km_S → Prop) : Nat → Int32 → Int32 → km_S → Prop
  | 0, _, _, _ => True
  | n + 1, l2, l3, μ => ((7 ≤ l3 → k130 l2 μ) ∧ (¬ (7 ≤ l3) → vp_in l3 7 → vX12_isWord l3.toNatClampNeg μ (fun r12 μ11 => ((r12 = 0 → vX12_readPart_124 re (vX12_readPart_103 re k130 Q n) Q l2 l3 μ11) ∧ (¬ (r12 = 0) → vX12_readPart_124 re (vX12_readPart_103 re k130 Q n) Q l3 l3 μ11)))))
set_option maxRecDepth 100000 in
set_option maxHeartbeats 4000000 in
theorem jcX12_readPart_103 {re re' : Int32 → km_S → (km_S → Prop) → Prop} (hre : ∀ {P P' P'' : km_S → Prop}, (∀ y0, P y0 → P' y0 → P'' y0) → ∀ (x0 : Int32) (x1 : km_S), re x0 x1 P → re' x0 x1 P' → re x0 x1 P'') {k130 k130' k130'' : Int32 → km_S → Prop} (hk130 : ∀ y0 y1, k130 y0 y1 → k130' y0 y1 → k130'' y0 y1) {Q Q' Q'' : km_S → Prop} (hQ : ∀ y0, Q y0 → Q' y0 → Q'' y0) : ∀ (n : Nat) (l2 : Int32) (l3 : Int32) (μ : km_S), wX12_readPart_103 re k130 Q n l2 l3 μ → vX12_readPart_103 re' k130' Q' n l2 l3 μ → wX12_readPart_103 re k130'' Q'' n l2 l3 μ := by
  intro n
  induction n with
  | zero => intro l2 l3 μ h; exact h.elim
  | succ n ih =>
    intro l2 l3 μ h v
    unfold wX12_readPart_103 at h
    unfold vX12_readPart_103 at v
    unfold wX12_readPart_103
    refine ⟨?_, ?_⟩
    · have h := h.1
      have v := v.1
      intro e1
      have h := h e1
      have v := v e1
      exact hk130 _ _ h v
    · have h := h.2
      have v := v.2
      intro e2
      have h := h e2
      have v := v e2
      refine ⟨h.1, ?_⟩
      have v := v h.1
      have h := h.2
      refine jcX12_isWord ?_ _ _ h v
      intro r12 μ11 h v
      refine ⟨?_, ?_⟩
      · have h := h.1
        have v := v.1
        intro e4
        have h := h e4
        have v := v e4
        exact jcX12_readPart_124 hre (k103 := wX12_readPart_103 re k130 Q n) (k103' := vX12_readPart_103 re' k130' Q' n) (k103'' := wX12_readPart_103 re k130'' Q'' n) (fun _ _ _ h v => ih _ _ _ h v) hQ _ _ _ h v
      · have h := h.2
        have v := v.2
        intro e5
        have h := h e5
        have v := v e5
        exact jcX12_readPart_124 hre (k103 := wX12_readPart_103 re k130 Q n) (k103' := vX12_readPart_103 re' k130' Q' n) (k103'' := wX12_readPart_103 re k130'' Q'' n) (fun _ _ _ h v => ih _ _ _ h v) hQ _ _ _ h v
set_option maxRecDepth 100000 in
set_option maxHeartbeats 4000000 in
theorem jaX12_readPart_103 {re re' : Int32 → km_S → (km_S → Prop) → Prop} (hre : ∀ {P P' : km_S → Prop}, (∀ y0, P y0 → P' y0) → ∀ (x0 : Int32) (x1 : km_S), re x0 x1 P → re' x0 x1 P') {k130 k130' : Int32 → km_S → Prop} (hk130 : ∀ y0 y1, k130 y0 y1 → k130' y0 y1) {Q Q' : km_S → Prop} (hQ : ∀ y0, Q y0 → Q' y0) : ∀ (n m : Nat) (l2 : Int32) (l3 : Int32) (μ : km_S), wX12_readPart_103 re k130 Q n l2 l3 μ → vX12_readPart_103 re' k130' Q' m l2 l3 μ := by
  intro n
  induction n with
  | zero => intro m l2 l3 μ h; exact h.elim
  | succ n ih =>
    intro m l2 l3 μ h
    cases m with
    | zero => exact trivial
    | succ m =>
      unfold wX12_readPart_103 at h
      unfold vX12_readPart_103
      refine ⟨?_, ?_⟩
      · have h := h.1
        intro e1
        have h := h e1
        exact hk130 _ _ h
      · have h := h.2
        intro e2
        have h := h e2
        intro e3
        have h := h.2
        refine jaX12_isWord ?_ _ _ h
        intro r12 μ11 h
        refine ⟨?_, ?_⟩
        · have h := h.1
          intro e4
          have h := h e4
          exact jaX12_readPart_124 hre (k103 := wX12_readPart_103 re k130 Q n) (k103' := vX12_readPart_103 re' k130' Q' m) (fun _ _ _ h => ih m _ _ _ h) hQ _ _ _ h
        · have h := h.2
          intro e5
          have h := h e5
          exact jaX12_readPart_124 hre (k103 := wX12_readPart_103 re k130 Q n) (k103' := vX12_readPart_103 re' k130' Q' m) (fun _ _ _ h => ih m _ _ _ h) hQ _ _ _ h
set_option maxRecDepth 100000 in
set_option maxHeartbeats 4000000 in
theorem jfX12_readPart_103 {I : km_S → Prop} (W : gw_ I [56, 59, 60, 62, 63, 64, 65, 66, 67]) {re : Int32 → km_S → (km_S → Prop) → Prop} (hre : ∀ {P : km_S → Prop}, (∀ y0, I y0 → P y0) → ∀ (x0 : Int32) (x1 : km_S), I x1 → re x0 x1 P) {k130 : Int32 → km_S → Prop} (hk130 : ∀ y0 y1, I y1 → k130 y0 y1) {Q : km_S → Prop} (hQ : ∀ y0, I y0 → Q y0) : ∀ (n : Nat) (l2 : Int32) (l3 : Int32) (μ : km_S), I μ → vX12_readPart_103 re k130 Q n l2 l3 μ := by
  intro n
  induction n with
  | zero => intro l2 l3 μ i; exact trivial
  | succ n ih =>
    intro l2 l3 μ i
    unfold vX12_readPart_103
    refine ⟨?_, ?_⟩
    · intro e1
      exact hk130 _ _ i
    · intro e2
      intro e3
      refine jfX12_isWord (I := I) (gw_sub W (by decide)) ?_ _ _ i
      intro r12 μ11 iμ11
      refine ⟨?_, ?_⟩
      · intro e4
        exact jfX12_readPart_124 (I := I) (gw_sub W (by decide)) hre (k103 := vX12_readPart_103 re k130 Q n) (fun _ _ _ i => ih _ _ _ i) hQ _ _ _ iμ11
      · intro e5
        exact jfX12_readPart_124 (I := I) (gw_sub W (by decide)) hre (k103 := vX12_readPart_103 re k130 Q n) (fun _ _ _ i => ih _ _ _ i) hQ _ _ _ iμ11
def vX12_readPart_42 (re : Int32 → km_S → (km_S → Prop) → Prop) (k78 : Int32 → km_S → Prop) (Q : km_S → Prop) : Nat → Int32 → Int32 → km_S → Prop
  | 0, _, _, _ => True
  | n + 1, l2, l3, μ => (((km_i μ 65) ≤ l3 → k78 l2 μ) ∧ (¬ ((km_i μ 65) ≤ l3) → ((¬ (km_i μ 66) = 0 → k78 l2 μ) ∧ ((km_i μ 66) = 0 → vp_in l3 500 → ∀ v17, v17 = ((10 * l2) + (km_a μ 52 l3.toNatClampNeg)) - 48 → ∀ v18 : Int32, v18 = l3 + 1 → vX12_readPart_42 re k78 Q n v17 v18 μ))))
set_option maxRecDepth 100000 in
set_option maxHeartbeats 4000000 in
theorem jcX12_readPart_42 {re re' : Int32 → km_S → (km_S → Prop) → Prop} (hre : ∀ {P P' P'' : km_S → Prop}, (∀ y0, P y0 → P' y0 → P'' y0) → ∀ (x0 : Int32) (x1 : km_S), re x0 x1 P → re' x0 x1 P' → re x0 x1 P'') {k78 k78' k78'' : Int32 → km_S → Prop} (hk78 : ∀ y0 y1, k78 y0 y1 → k78' y0 y1 → k78'' y0 y1) {Q Q' Q'' : km_S → Prop} (hQ : ∀ y0, Q y0 → Q' y0 → Q'' y0) : ∀ (n : Nat) (l2 : Int32) (l3 : Int32) (μ : km_S), wX12_readPart_42 re k78 Q n l2 l3 μ → vX12_readPart_42 re' k78' Q' n l2 l3 μ → wX12_readPart_42 re k78'' Q'' n l2 l3 μ := by
  intro n
  induction n with
  | zero => intro l2 l3 μ h; exact h.elim
  | succ n ih =>
    intro l2 l3 μ h v
    unfold wX12_readPart_42 at h
    unfold vX12_readPart_42 at v
    unfold wX12_readPart_42
    refine ⟨?_, ?_⟩
    · have h := h.1
      have v := v.1
      intro e1
      have h := h e1
      have v := v e1
      exact hk78 _ _ h v
    · have h := h.2
      have v := v.2
      intro e2
      have h := h e2
      have v := v e2
      refine ⟨?_, ?_⟩
      · have h := h.1
        have v := v.1
        intro e3
        have h := h e3
        have v := v e3
        exact hk78 _ _ h v
      · have h := h.2
        have v := v.2
        intro e4
        have h := h e4
        have v := v e4
        refine ⟨h.1, ?_⟩
        have v := v h.1
        have h := h.2
        intro v17 e6
        have h := h v17 e6
        have v := v v17 e6
        intro v18 e7
        have h := h v18 e7
        have v := v v18 e7
        exact ih _ _ _ h v
set_option maxRecDepth 100000 in
set_option maxHeartbeats 4000000 in
theorem jaX12_readPart_42 {re re' : Int32 → km_S → (km_S → Prop) → Prop} (hre : ∀ {P P' : km_S → Prop}, (∀ y0, P y0 → P' y0) → ∀ (x0 : Int32) (x1 : km_S), re x0 x1 P → re' x0 x1 P') {k78 k78' : Int32 → km_S → Prop} (hk78 : ∀ y0 y1, k78 y0 y1 → k78' y0 y1) {Q Q' : km_S → Prop} (hQ : ∀ y0, Q y0 → Q' y0) : ∀ (n m : Nat) (l2 : Int32) (l3 : Int32) (μ : km_S), wX12_readPart_42 re k78 Q n l2 l3 μ → vX12_readPart_42 re' k78' Q' m l2 l3 μ := by
  intro n
  induction n with
  | zero => intro m l2 l3 μ h; exact h.elim
  | succ n ih =>
    intro m l2 l3 μ h
    cases m with
    | zero => exact trivial
    | succ m =>
      unfold wX12_readPart_42 at h
      unfold vX12_readPart_42
      refine ⟨?_, ?_⟩
      · have h := h.1
        intro e1
        have h := h e1
        exact hk78 _ _ h
      · have h := h.2
        intro e2
        have h := h e2
        refine ⟨?_, ?_⟩
        · have h := h.1
          intro e3
          have h := h e3
          exact hk78 _ _ h
        · have h := h.2
          intro e4
          have h := h e4
          intro e5
          have h := h.2
          intro v17 e6
          have h := h v17 e6
          intro v18 e7
          have h := h v18 e7
          exact ih m _ _ _ h
set_option maxRecDepth 100000 in
set_option maxHeartbeats 4000000 in
theorem jfX12_readPart_42 {I : km_S → Prop} (W : gw_ I [56, 59, 60, 62, 63, 64, 65, 66, 67]) {re : Int32 → km_S → (km_S → Prop) → Prop} (hre : ∀ {P : km_S → Prop}, (∀ y0, I y0 → P y0) → ∀ (x0 : Int32) (x1 : km_S), I x1 → re x0 x1 P) {k78 : Int32 → km_S → Prop} (hk78 : ∀ y0 y1, I y1 → k78 y0 y1) {Q : km_S → Prop} (hQ : ∀ y0, I y0 → Q y0) : ∀ (n : Nat) (l2 : Int32) (l3 : Int32) (μ : km_S), I μ → vX12_readPart_42 re k78 Q n l2 l3 μ := by
  intro n
  induction n with
  | zero => intro l2 l3 μ i; exact trivial
  | succ n ih =>
    intro l2 l3 μ i
    unfold vX12_readPart_42
    refine ⟨?_, ?_⟩
    · intro e1
      exact hk78 _ _ i
    · intro e2
      refine ⟨?_, ?_⟩
      · intro e3
        exact hk78 _ _ i
      · intro e4
        intro e5
        intro v17 e6
        intro v18 e7
        exact ih _ _ _ i
end
section
def vX12_readPart_35 (re : Int32 → km_S → (km_S → Prop) → Prop) (k200 : km_S → Prop) (Q : km_S → Prop) (μ : km_S) : Prop := ∀ v19, v19 = km_i μ 64 → ∀ j, vX12_readPart_42 re (vX12_readPart_78 re k200 Q) Q j 0 v19 μ
set_option maxRecDepth 100000 in
set_option maxHeartbeats 4000000 in
theorem jcX12_readPart_35 {re re' : Int32 → km_S → (km_S → Prop) → Prop} (hre : ∀ {P P' P'' : km_S → Prop}, (∀ y0, P y0 → P' y0 → P'' y0) → ∀ (x0 : Int32) (x1 : km_S), re x0 x1 P → re' x0 x1 P' → re x0 x1 P'') {k200 k200' k200'' : km_S → Prop} (hk200 : ∀ y0, k200 y0 → k200' y0 → k200'' y0) {Q Q' Q'' : km_S → Prop} (hQ : ∀ y0, Q y0 → Q' y0 → Q'' y0) : ∀ (μ : km_S), wX12_readPart_35 re k200 Q μ → vX12_readPart_35 re' k200' Q' μ → wX12_readPart_35 re k200'' Q'' μ := by
  intro μ h v
  unfold wX12_readPart_35 at h
  unfold vX12_readPart_35 at v
  unfold wX12_readPart_35
  intro v19 e1
  have h := h v19 e1
  have v := v v19 e1
  obtain ⟨j, h⟩ := h
  refine ⟨j, ?_⟩
  have v := v j
  exact jcX12_readPart_42 hre (k78 := wX12_readPart_78 re k200 Q) (k78' := vX12_readPart_78 re' k200' Q') (k78'' := wX12_readPart_78 re k200'' Q'') (fun _ _ h v => jcX12_readPart_78 hre hk200 hQ _ _ h v) hQ _ _ _ _ h v
set_option maxRecDepth 100000 in
set_option maxHeartbeats 4000000 in
theorem jaX12_readPart_35 {re re' : Int32 → km_S → (km_S → Prop) → Prop} (hre : ∀ {P P' : km_S → Prop}, (∀ y0, P y0 → P' y0) → ∀ (x0 : Int32) (x1 : km_S), re x0 x1 P → re' x0 x1 P') {k200 k200' : km_S → Prop} (hk200 : ∀ y0, k200 y0 → k200' y0) {Q Q' : km_S → Prop} (hQ : ∀ y0, Q y0 → Q' y0) : ∀ (μ : km_S), wX12_readPart_35 re k200 Q μ → vX12_readPart_35 re' k200' Q' μ := by
  intro μ h
  unfold wX12_readPart_35 at h
  unfold vX12_readPart_35
  intro v19 e1
  have h := h v19 e1
  obtain ⟨j, h⟩ := h
  intro j9
  exact jaX12_readPart_42 hre (k78 := wX12_readPart_78 re k200 Q) (k78' := vX12_readPart_78 re' k200' Q') (fun _ _ h => jaX12_readPart_78 hre hk200 hQ _ _ h) hQ _ j9 _ _ _ h
set_option maxRecDepth 100000 in
set_option maxHeartbeats 4000000 in
theorem jfX12_readPart_35 {I : km_S → Prop} (W : gw_ I [56, 59, 60, 62, 63, 64, 65, 66, 67]) {re : Int32 → km_S → (km_S → Prop) → Prop} (hre : ∀ {P : km_S → Prop}, (∀ y0, I y0 → P y0) → ∀ (x0 : Int32) (x1 : km_S), I x1 → re x0 x1 P) {k200 : km_S → Prop} (hk200 : ∀ y0, I y0 → k200 y0) {Q : km_S → Prop} (hQ : ∀ y0, I y0 → Q y0) : ∀ (μ : km_S), I μ → vX12_readPart_35 re k200 Q μ := by
  intro μ i
  unfold vX12_readPart_35
  intro v19 e1
  intro j
  exact jfX12_readPart_42 (I := I) (gw_sub W (by decide)) hre (k78 := vX12_readPart_78 re k200 Q) (fun _ _ i => jfX12_readPart_78 (I := I) (gw_sub W (by decide)) hre hk200 hQ _ _ i) hQ _ _ _ _ i
def vX12_readPart (re : Int32 → km_S → (km_S → Prop) → Prop) (l1 : Int32) (μ : km_S) (Q : km_S → Prop) : Prop := (((km_i μ 66) = 0 → ((¬ (km_i μ 62) = 2 → ((¬ (km_i μ 62) = 1 → vX12_isSign 40 μ (fun r25 μ24 => ((r25 = 0 → vX12_wrong 1 μ24 (fun μ27 => vX12_readPart_200 re Q μ27)) ∧ (¬ (r25 = 0) → vX12_step μ24 (fun μ28 => re (l1 + 1) μ28 (fun μ29 => ((¬ (km_i μ29 66) = 0 → vX12_readPart_200 re Q μ29) ∧ ((km_i μ29 66) = 0 → vX12_isSign 41 μ29 (fun r32 μ31 => ((¬ r32 = 0 → vX12_readPart_200 re Q μ31) ∧ (r32 = 0 → vX12_wrong 1 μ31 (fun μ34 => vX12_readPart_200 re Q μ34)))))))))))) ∧ ((km_i μ 62) = 1 → ∀ j, vX12_readPart_103 re (vX12_readPart_130 re (vX12_readPart_200 re Q) Q) Q j (-1) 0 μ))) ∧ ((km_i μ 62) = 2 → ((((km_i μ 65) - (km_i μ 64)) ≤ 6 → vX12_readPart_35 re (vX12_readPart_200 re Q) Q μ) ∧ (¬ (((km_i μ 65) - (km_i μ 64)) ≤ 6) → vX12_wrong 2 μ (fun μ37 => vX12_readPart_35 re (vX12_readPart_200 re Q) Q μ37)))))) ∧ (¬ ((km_i μ 66) = 0) → Q μ))
set_option maxRecDepth 100000 in
set_option maxHeartbeats 4000000 in
theorem jcX12_readPart {re re' : Int32 → km_S → (km_S → Prop) → Prop} (hre : ∀ {P P' P'' : km_S → Prop}, (∀ y0, P y0 → P' y0 → P'' y0) → ∀ (x0 : Int32) (x1 : km_S), re x0 x1 P → re' x0 x1 P' → re x0 x1 P'') {Q Q' Q'' : km_S → Prop} (hQ : ∀ y0, Q y0 → Q' y0 → Q'' y0) : ∀ (l1 : Int32) (μ : km_S), wX12_readPart re l1 μ Q → vX12_readPart re' l1 μ Q' → wX12_readPart re l1 μ Q'' := by
  intro l1 μ h v
  unfold wX12_readPart at h
  unfold vX12_readPart at v
  unfold wX12_readPart
  refine ⟨?_, ?_⟩
  · have h := h.1
    have v := v.1
    intro e1
    have h := h e1
    have v := v e1
    refine ⟨?_, ?_⟩
    · have h := h.1
      have v := v.1
      intro e2
      have h := h e2
      have v := v e2
      refine ⟨?_, ?_⟩
      · have h := h.1
        have v := v.1
        intro e3
        have h := h e3
        have v := v e3
        refine jcX12_isSign ?_ _ _ h v
        intro r25 μ24 h v
        refine ⟨?_, ?_⟩
        · have h := h.1
          have v := v.1
          intro e4
          have h := h e4
          have v := v e4
          refine jcX12_wrong ?_ _ _ h v
          intro μ27 h v
          exact jcX12_readPart_200 hre hQ _ h v
        · have h := h.2
          have v := v.2
          intro e5
          have h := h e5
          have v := v e5
          refine jcX12_step ?_ _ h v
          intro μ28 h v
          refine hre ?_ _ _ h v
          intro μ29 h v
          refine ⟨?_, ?_⟩
          · have h := h.1
            have v := v.1
            intro e6
            have h := h e6
            have v := v e6
            exact jcX12_readPart_200 hre hQ _ h v
          · have h := h.2
            have v := v.2
            intro e7
            have h := h e7
            have v := v e7
            refine jcX12_isSign ?_ _ _ h v
            intro r32 μ31 h v
            refine ⟨?_, ?_⟩
            · have h := h.1
              have v := v.1
              intro e8
              have h := h e8
              have v := v e8
              exact jcX12_readPart_200 hre hQ _ h v
            · have h := h.2
              have v := v.2
              intro e9
              have h := h e9
              have v := v e9
              refine jcX12_wrong ?_ _ _ h v
              intro μ34 h v
              exact jcX12_readPart_200 hre hQ _ h v
      · have h := h.2
        have v := v.2
        intro e10
        have h := h e10
        have v := v e10
        obtain ⟨j, h⟩ := h
        refine ⟨j, ?_⟩
        have v := v j
        exact jcX12_readPart_103 hre (k130 := wX12_readPart_130 re (wX12_readPart_200 re Q) Q) (k130' := vX12_readPart_130 re' (vX12_readPart_200 re' Q') Q') (k130'' := wX12_readPart_130 re (wX12_readPart_200 re Q'') Q'') (fun _ _ h v => jcX12_readPart_130 hre (k200 := wX12_readPart_200 re Q) (k200' := vX12_readPart_200 re' Q') (k200'' := wX12_readPart_200 re Q'') (fun _ h v => jcX12_readPart_200 hre hQ _ h v) hQ _ _ h v) hQ _ _ _ _ h v
    · have h := h.2
      have v := v.2
      intro e11
      have h := h e11
      have v := v e11
      refine ⟨?_, ?_⟩
      · have h := h.1
        have v := v.1
        intro e12
        have h := h e12
        have v := v e12
        exact jcX12_readPart_35 hre (k200 := wX12_readPart_200 re Q) (k200' := vX12_readPart_200 re' Q') (k200'' := wX12_readPart_200 re Q'') (fun _ h v => jcX12_readPart_200 hre hQ _ h v) hQ _ h v
      · have h := h.2
        have v := v.2
        intro e13
        have h := h e13
        have v := v e13
        refine jcX12_wrong ?_ _ _ h v
        intro μ37 h v
        exact jcX12_readPart_35 hre (k200 := wX12_readPart_200 re Q) (k200' := vX12_readPart_200 re' Q') (k200'' := wX12_readPart_200 re Q'') (fun _ h v => jcX12_readPart_200 hre hQ _ h v) hQ _ h v
  · have h := h.2
    have v := v.2
    intro e14
    have h := h e14
    have v := v e14
    exact hQ _ h v
set_option maxRecDepth 100000 in
set_option maxHeartbeats 4000000 in
theorem jaX12_readPart {re re' : Int32 → km_S → (km_S → Prop) → Prop} (hre : ∀ {P P' : km_S → Prop}, (∀ y0, P y0 → P' y0) → ∀ (x0 : Int32) (x1 : km_S), re x0 x1 P → re' x0 x1 P') {Q Q' : km_S → Prop} (hQ : ∀ y0, Q y0 → Q' y0) : ∀ (l1 : Int32) (μ : km_S), wX12_readPart re l1 μ Q → vX12_readPart re' l1 μ Q' := by
  intro l1 μ h
  unfold wX12_readPart at h
  unfold vX12_readPart
  refine ⟨?_, ?_⟩
  · have h := h.1
    intro e1
    have h := h e1
    refine ⟨?_, ?_⟩
    · have h := h.1
      intro e2
      have h := h e2
      refine ⟨?_, ?_⟩
      · have h := h.1
        intro e3
        have h := h e3
        refine jaX12_isSign ?_ _ _ h
        intro r25 μ24 h
        refine ⟨?_, ?_⟩
        · have h := h.1
          intro e4
          have h := h e4
          refine jaX12_wrong ?_ _ _ h
          intro μ27 h
          exact jaX12_readPart_200 hre hQ _ h
        · have h := h.2
          intro e5
          have h := h e5
          refine jaX12_step ?_ _ h
          intro μ28 h
          refine hre ?_ _ _ h
          intro μ29 h
          refine ⟨?_, ?_⟩
          · have h := h.1
            intro e6
            have h := h e6
            exact jaX12_readPart_200 hre hQ _ h
          · have h := h.2
            intro e7
            have h := h e7
            refine jaX12_isSign ?_ _ _ h
            intro r32 μ31 h
            refine ⟨?_, ?_⟩
            · have h := h.1
              intro e8
              have h := h e8
              exact jaX12_readPart_200 hre hQ _ h
            · have h := h.2
              intro e9
              have h := h e9
              refine jaX12_wrong ?_ _ _ h
              intro μ34 h
              exact jaX12_readPart_200 hre hQ _ h
      · have h := h.2
        intro e10
        have h := h e10
        obtain ⟨j, h⟩ := h
        intro j9
        exact jaX12_readPart_103 hre (k130 := wX12_readPart_130 re (wX12_readPart_200 re Q) Q) (k130' := vX12_readPart_130 re' (vX12_readPart_200 re' Q') Q') (fun _ _ h => jaX12_readPart_130 hre (k200 := wX12_readPart_200 re Q) (k200' := vX12_readPart_200 re' Q') (fun _ h => jaX12_readPart_200 hre hQ _ h) hQ _ _ h) hQ _ j9 _ _ _ h
    · have h := h.2
      intro e11
      have h := h e11
      refine ⟨?_, ?_⟩
      · have h := h.1
        intro e12
        have h := h e12
        exact jaX12_readPart_35 hre (k200 := wX12_readPart_200 re Q) (k200' := vX12_readPart_200 re' Q') (fun _ h => jaX12_readPart_200 hre hQ _ h) hQ _ h
      · have h := h.2
        intro e13
        have h := h e13
        refine jaX12_wrong ?_ _ _ h
        intro μ37 h
        exact jaX12_readPart_35 hre (k200 := wX12_readPart_200 re Q) (k200' := vX12_readPart_200 re' Q') (fun _ h => jaX12_readPart_200 hre hQ _ h) hQ _ h
  · have h := h.2
    intro e14
    have h := h e14
    exact hQ _ h
set_option maxRecDepth 100000 in
set_option maxHeartbeats 4000000 in
theorem jfX12_readPart {I : km_S → Prop} (W : gw_ I [56, 59, 60, 62, 63, 64, 65, 66, 67]) {re : Int32 → km_S → (km_S → Prop) → Prop} (hre : ∀ {P : km_S → Prop}, (∀ y0, I y0 → P y0) → ∀ (x0 : Int32) (x1 : km_S), I x1 → re x0 x1 P) {Q : km_S → Prop} (hQ : ∀ y0, I y0 → Q y0) : ∀ (l1 : Int32) (μ : km_S), I μ → vX12_readPart re l1 μ Q := by
  intro l1 μ i
  unfold vX12_readPart
  refine ⟨?_, ?_⟩
  · intro e1
    refine ⟨?_, ?_⟩
    · intro e2
      refine ⟨?_, ?_⟩
      · intro e3
        refine jfX12_isSign (I := I) (gw_sub W (by decide)) ?_ _ _ i
        intro r25 μ24 iμ24
        refine ⟨?_, ?_⟩
        · intro e4
          refine jfX12_wrong (I := I) (gw_sub W (by decide)) ?_ _ _ iμ24
          intro μ27 iμ27
          exact jfX12_readPart_200 (I := I) (gw_sub W (by decide)) hre hQ _ iμ27
        · intro e5
          refine jfX12_step (I := I) (gw_sub W (by decide)) ?_ _ iμ24
          intro μ28 iμ28
          refine hre ?_ _ _ iμ28
          intro μ29 iμ29
          refine ⟨?_, ?_⟩
          · intro e6
            exact jfX12_readPart_200 (I := I) (gw_sub W (by decide)) hre hQ _ iμ29
          · intro e7
            refine jfX12_isSign (I := I) (gw_sub W (by decide)) ?_ _ _ iμ29
            intro r32 μ31 iμ31
            refine ⟨?_, ?_⟩
            · intro e8
              exact jfX12_readPart_200 (I := I) (gw_sub W (by decide)) hre hQ _ iμ31
            · intro e9
              refine jfX12_wrong (I := I) (gw_sub W (by decide)) ?_ _ _ iμ31
              intro μ34 iμ34
              exact jfX12_readPart_200 (I := I) (gw_sub W (by decide)) hre hQ _ iμ34
      · intro e10
        intro j
        exact jfX12_readPart_103 (I := I) (gw_sub W (by decide)) hre (k130 := vX12_readPart_130 re (vX12_readPart_200 re Q) Q) (fun _ _ i => jfX12_readPart_130 (I := I) (gw_sub W (by decide)) hre (k200 := vX12_readPart_200 re Q) (fun _ i => jfX12_readPart_200 (I := I) (gw_sub W (by decide)) hre hQ _ i) hQ _ _ i) hQ _ _ _ _ i
    · intro e11
      refine ⟨?_, ?_⟩
      · intro e12
        exact jfX12_readPart_35 (I := I) (gw_sub W (by decide)) hre (k200 := vX12_readPart_200 re Q) (fun _ i => jfX12_readPart_200 (I := I) (gw_sub W (by decide)) hre hQ _ i) hQ _ i
      · intro e13
        refine jfX12_wrong (I := I) (gw_sub W (by decide)) ?_ _ _ i
        intro μ37 iμ37
        exact jfX12_readPart_35 (I := I) (gw_sub W (by decide)) hre (k200 := vX12_readPart_200 re Q) (fun _ i => jfX12_readPart_200 (I := I) (gw_sub W (by decide)) hre hQ _ i) hQ _ iμ37
  · intro e14
    exact hQ _ i
def vX12_readTerm_44 (re : Int32 → km_S → (km_S → Prop) → Prop) (k5 : Int32 → km_S → Prop) (Q : km_S → Prop) (l1 : Int32) (s0 : Int32) (μ : km_S) : Prop := vX12_step μ (fun μ1 => vX12_readPart re l1 μ1 (fun μ2 => vX12_emit s0 μ2 (fun μ3 => k5 l1 μ3)))
set_option maxRecDepth 100000 in
set_option maxHeartbeats 4000000 in
theorem jcX12_readTerm_44 {re re' : Int32 → km_S → (km_S → Prop) → Prop} (hre : ∀ {P P' P'' : km_S → Prop}, (∀ y0, P y0 → P' y0 → P'' y0) → ∀ (x0 : Int32) (x1 : km_S), re x0 x1 P → re' x0 x1 P' → re x0 x1 P'') {k5 k5' k5'' : Int32 → km_S → Prop} (hk5 : ∀ y0 y1, k5 y0 y1 → k5' y0 y1 → k5'' y0 y1) {Q Q' Q'' : km_S → Prop} (hQ : ∀ y0, Q y0 → Q' y0 → Q'' y0) : ∀ (l1 : Int32) (s0 : Int32) (μ : km_S), wX12_readTerm_44 re k5 Q l1 s0 μ → vX12_readTerm_44 re' k5' Q' l1 s0 μ → wX12_readTerm_44 re k5'' Q'' l1 s0 μ := by
  intro l1 s0 μ h v
  unfold wX12_readTerm_44 at h
  unfold vX12_readTerm_44 at v
  unfold wX12_readTerm_44
  refine jcX12_step ?_ _ h v
  intro μ1 h v
  refine jcX12_readPart hre ?_ _ _ h v
  intro μ2 h v
  refine jcX12_emit ?_ _ _ h v
  intro μ3 h v
  exact hk5 _ _ h v
set_option maxRecDepth 100000 in
set_option maxHeartbeats 4000000 in
theorem jaX12_readTerm_44 {re re' : Int32 → km_S → (km_S → Prop) → Prop} (hre : ∀ {P P' : km_S → Prop}, (∀ y0, P y0 → P' y0) → ∀ (x0 : Int32) (x1 : km_S), re x0 x1 P → re' x0 x1 P') {k5 k5' : Int32 → km_S → Prop} (hk5 : ∀ y0 y1, k5 y0 y1 → k5' y0 y1) {Q Q' : km_S → Prop} (hQ : ∀ y0, Q y0 → Q' y0) : ∀ (l1 : Int32) (s0 : Int32) (μ : km_S), wX12_readTerm_44 re k5 Q l1 s0 μ → vX12_readTerm_44 re' k5' Q' l1 s0 μ := by
  intro l1 s0 μ h
  unfold wX12_readTerm_44 at h
  unfold vX12_readTerm_44
  refine jaX12_step ?_ _ h
  intro μ1 h
  refine jaX12_readPart hre ?_ _ _ h
  intro μ2 h
  refine jaX12_emit ?_ _ _ h
  intro μ3 h
  exact hk5 _ _ h
set_option maxRecDepth 100000 in
set_option maxHeartbeats 4000000 in
theorem jfX12_readTerm_44 {I : km_S → Prop} (W : gw_ I [56, 59, 60, 62, 63, 64, 65, 66, 67]) {re : Int32 → km_S → (km_S → Prop) → Prop} (hre : ∀ {P : km_S → Prop}, (∀ y0, I y0 → P y0) → ∀ (x0 : Int32) (x1 : km_S), I x1 → re x0 x1 P) {k5 : Int32 → km_S → Prop} (hk5 : ∀ y0 y1, I y1 → k5 y0 y1) {Q : km_S → Prop} (hQ : ∀ y0, I y0 → Q y0) : ∀ (l1 : Int32) (s0 : Int32) (μ : km_S), I μ → vX12_readTerm_44 re k5 Q l1 s0 μ := by
  intro l1 s0 μ i
  unfold vX12_readTerm_44
  refine jfX12_step (I := I) (gw_sub W (by decide)) ?_ _ i
  intro μ1 iμ1
  refine jfX12_readPart (I := I) (gw_sub W (by decide)) hre ?_ _ _ iμ1
  intro μ2 iμ2
  refine jfX12_emit (I := I) (gw_sub W (by decide)) ?_ _ _ iμ2
  intro μ3 iμ3
  exact hk5 _ _ iμ3
def vX12_readTerm_30 (re : Int32 → km_S → (km_S → Prop) → Prop) (k5 : Int32 → km_S → Prop) (Q : km_S → Prop) (l1 : Int32) (μ : km_S) : Prop := vX12_isSign 42 μ (fun r5 μ4 => ((r5 = 0 → vX12_readTerm_44 re k5 Q l1 4 μ4) ∧ (¬ (r5 = 0) → vX12_readTerm_44 re k5 Q l1 3 μ4)))
set_option maxRecDepth 100000 in
set_option maxHeartbeats 4000000 in
theorem jcX12_readTerm_30 {re re' : Int32 → km_S → (km_S → Prop) → Prop} (hre : ∀ {P P' P'' : km_S → Prop}, (∀ y0, P y0 → P' y0 → P'' y0) → ∀ (x0 : Int32) (x1 : km_S), re x0 x1 P → re' x0 x1 P' → re x0 x1 P'') {k5 k5' k5'' : Int32 → km_S → Prop} (hk5 : ∀ y0 y1, k5 y0 y1 → k5' y0 y1 → k5'' y0 y1) {Q Q' Q'' : km_S → Prop} (hQ : ∀ y0, Q y0 → Q' y0 → Q'' y0) : ∀ (l1 : Int32) (μ : km_S), wX12_readTerm_30 re k5 Q l1 μ → vX12_readTerm_30 re' k5' Q' l1 μ → wX12_readTerm_30 re k5'' Q'' l1 μ := by
  intro l1 μ h v
  unfold wX12_readTerm_30 at h
  unfold vX12_readTerm_30 at v
  unfold wX12_readTerm_30
  refine jcX12_isSign ?_ _ _ h v
  intro r5 μ4 h v
  refine ⟨?_, ?_⟩
  · have h := h.1
    have v := v.1
    intro e1
    have h := h e1
    have v := v e1
    exact jcX12_readTerm_44 hre hk5 hQ _ _ _ h v
  · have h := h.2
    have v := v.2
    intro e2
    have h := h e2
    have v := v e2
    exact jcX12_readTerm_44 hre hk5 hQ _ _ _ h v
set_option maxRecDepth 100000 in
set_option maxHeartbeats 4000000 in
theorem jaX12_readTerm_30 {re re' : Int32 → km_S → (km_S → Prop) → Prop} (hre : ∀ {P P' : km_S → Prop}, (∀ y0, P y0 → P' y0) → ∀ (x0 : Int32) (x1 : km_S), re x0 x1 P → re' x0 x1 P') {k5 k5' : Int32 → km_S → Prop} (hk5 : ∀ y0 y1, k5 y0 y1 → k5' y0 y1) {Q Q' : km_S → Prop} (hQ : ∀ y0, Q y0 → Q' y0) : ∀ (l1 : Int32) (μ : km_S), wX12_readTerm_30 re k5 Q l1 μ → vX12_readTerm_30 re' k5' Q' l1 μ := by
  intro l1 μ h
  unfold wX12_readTerm_30 at h
  unfold vX12_readTerm_30
  refine jaX12_isSign ?_ _ _ h
  intro r5 μ4 h
  refine ⟨?_, ?_⟩
  · have h := h.1
    intro e1
    have h := h e1
    exact jaX12_readTerm_44 hre hk5 hQ _ _ _ h
  · have h := h.2
    intro e2
    have h := h e2
    exact jaX12_readTerm_44 hre hk5 hQ _ _ _ h
set_option maxRecDepth 100000 in
set_option maxHeartbeats 4000000 in
theorem jfX12_readTerm_30 {I : km_S → Prop} (W : gw_ I [56, 59, 60, 62, 63, 64, 65, 66, 67]) {re : Int32 → km_S → (km_S → Prop) → Prop} (hre : ∀ {P : km_S → Prop}, (∀ y0, I y0 → P y0) → ∀ (x0 : Int32) (x1 : km_S), I x1 → re x0 x1 P) {k5 : Int32 → km_S → Prop} (hk5 : ∀ y0 y1, I y1 → k5 y0 y1) {Q : km_S → Prop} (hQ : ∀ y0, I y0 → Q y0) : ∀ (l1 : Int32) (μ : km_S), I μ → vX12_readTerm_30 re k5 Q l1 μ := by
  intro l1 μ i
  unfold vX12_readTerm_30
  refine jfX12_isSign (I := I) (gw_sub W (by decide)) ?_ _ _ i
  intro r5 μ4 iμ4
  refine ⟨?_, ?_⟩
  · intro e1
    exact jfX12_readTerm_44 (I := I) (gw_sub W (by decide)) hre hk5 hQ _ _ _ iμ4
  · intro e2
    exact jfX12_readTerm_44 (I := I) (gw_sub W (by decide)) hre hk5 hQ _ _ _ iμ4
def vX12_readTerm_5 (re : Int32 → km_S → (km_S → Prop) → Prop) (Q : km_S → Prop) : Nat → Int32 → km_S → Prop
  | 0, _, _ => True
  | n + 1, l1, μ => ((¬ (km_i μ 66) = 0 → Q μ) ∧ ((km_i μ 66) = 0 → vX12_isSign 42 μ (fun r9 μ8 => ((¬ r9 = 0 → vX12_readTerm_30 re (vX12_readTerm_5 re Q n) Q l1 μ8) ∧ (r9 = 0 → vX12_isSign 47 μ8 (fun r12 μ11 => ((r12 = 0 → Q μ11) ∧ (¬ (r12 = 0) → vX12_readTerm_30 re (vX12_readTerm_5 re Q n) Q l1 μ11))))))))
set_option maxRecDepth 100000 in
set_option maxHeartbeats 4000000 in
theorem jcX12_readTerm_5 {re re' : Int32 → km_S → (km_S → Prop) → Prop} (hre : ∀ {P P' P'' : km_S → Prop}, (∀ y0, P y0 → P' y0 → P'' y0) → ∀ (x0 : Int32) (x1 : km_S), re x0 x1 P → re' x0 x1 P' → re x0 x1 P'') {Q Q' Q'' : km_S → Prop} (hQ : ∀ y0, Q y0 → Q' y0 → Q'' y0) : ∀ (n : Nat) (l1 : Int32) (μ : km_S), wX12_readTerm_5 re Q n l1 μ → vX12_readTerm_5 re' Q' n l1 μ → wX12_readTerm_5 re Q'' n l1 μ := by
  intro n
  induction n with
  | zero => intro l1 μ h; exact h.elim
  | succ n ih =>
    intro l1 μ h v
    unfold wX12_readTerm_5 at h
    unfold vX12_readTerm_5 at v
    unfold wX12_readTerm_5
    refine ⟨?_, ?_⟩
    · have h := h.1
      have v := v.1
      intro e1
      have h := h e1
      have v := v e1
      exact hQ _ h v
    · have h := h.2
      have v := v.2
      intro e2
      have h := h e2
      have v := v e2
      refine jcX12_isSign ?_ _ _ h v
      intro r9 μ8 h v
      refine ⟨?_, ?_⟩
      · have h := h.1
        have v := v.1
        intro e3
        have h := h e3
        have v := v e3
        exact jcX12_readTerm_30 hre (k5 := wX12_readTerm_5 re Q n) (k5' := vX12_readTerm_5 re' Q' n) (k5'' := wX12_readTerm_5 re Q'' n) (fun _ _ h v => ih _ _ h v) hQ _ _ h v
      · have h := h.2
        have v := v.2
        intro e4
        have h := h e4
        have v := v e4
        refine jcX12_isSign ?_ _ _ h v
        intro r12 μ11 h v
        refine ⟨?_, ?_⟩
        · have h := h.1
          have v := v.1
          intro e5
          have h := h e5
          have v := v e5
          exact hQ _ h v
        · have h := h.2
          have v := v.2
          intro e6
          have h := h e6
          have v := v e6
          exact jcX12_readTerm_30 hre (k5 := wX12_readTerm_5 re Q n) (k5' := vX12_readTerm_5 re' Q' n) (k5'' := wX12_readTerm_5 re Q'' n) (fun _ _ h v => ih _ _ h v) hQ _ _ h v
set_option maxRecDepth 100000 in
set_option maxHeartbeats 4000000 in
theorem jaX12_readTerm_5 {re re' : Int32 → km_S → (km_S → Prop) → Prop} (hre : ∀ {P P' : km_S → Prop}, (∀ y0, P y0 → P' y0) → ∀ (x0 : Int32) (x1 : km_S), re x0 x1 P → re' x0 x1 P') {Q Q' : km_S → Prop} (hQ : ∀ y0, Q y0 → Q' y0) : ∀ (n m : Nat) (l1 : Int32) (μ : km_S), wX12_readTerm_5 re Q n l1 μ → vX12_readTerm_5 re' Q' m l1 μ := by
  intro n
  induction n with
  | zero => intro m l1 μ h; exact h.elim
  | succ n ih =>
    intro m l1 μ h
    cases m with
    | zero => exact trivial
    | succ m =>
      unfold wX12_readTerm_5 at h
      unfold vX12_readTerm_5
      refine ⟨?_, ?_⟩
      · have h := h.1
        intro e1
        have h := h e1
        exact hQ _ h
      · have h := h.2
        intro e2
        have h := h e2
        refine jaX12_isSign ?_ _ _ h
        intro r9 μ8 h
        refine ⟨?_, ?_⟩
        · have h := h.1
          intro e3
          have h := h e3
          exact jaX12_readTerm_30 hre (k5 := wX12_readTerm_5 re Q n) (k5' := vX12_readTerm_5 re' Q' m) (fun _ _ h => ih m _ _ h) hQ _ _ h
        · have h := h.2
          intro e4
          have h := h e4
          refine jaX12_isSign ?_ _ _ h
          intro r12 μ11 h
          refine ⟨?_, ?_⟩
          · have h := h.1
            intro e5
            have h := h e5
            exact hQ _ h
          · have h := h.2
            intro e6
            have h := h e6
            exact jaX12_readTerm_30 hre (k5 := wX12_readTerm_5 re Q n) (k5' := vX12_readTerm_5 re' Q' m) (fun _ _ h => ih m _ _ h) hQ _ _ h
set_option maxRecDepth 100000 in
set_option maxHeartbeats 4000000 in
theorem jfX12_readTerm_5 {I : km_S → Prop} (W : gw_ I [56, 59, 60, 62, 63, 64, 65, 66, 67]) {re : Int32 → km_S → (km_S → Prop) → Prop} (hre : ∀ {P : km_S → Prop}, (∀ y0, I y0 → P y0) → ∀ (x0 : Int32) (x1 : km_S), I x1 → re x0 x1 P) {Q : km_S → Prop} (hQ : ∀ y0, I y0 → Q y0) : ∀ (n : Nat) (l1 : Int32) (μ : km_S), I μ → vX12_readTerm_5 re Q n l1 μ := by
  intro n
  induction n with
  | zero => intro l1 μ i; exact trivial
  | succ n ih =>
    intro l1 μ i
    unfold vX12_readTerm_5
    refine ⟨?_, ?_⟩
    · intro e1
      exact hQ _ i
    · intro e2
      refine jfX12_isSign (I := I) (gw_sub W (by decide)) ?_ _ _ i
      intro r9 μ8 iμ8
      refine ⟨?_, ?_⟩
      · intro e3
        exact jfX12_readTerm_30 (I := I) (gw_sub W (by decide)) hre (k5 := vX12_readTerm_5 re Q n) (fun _ _ i => ih _ _ i) hQ _ _ iμ8
      · intro e4
        refine jfX12_isSign (I := I) (gw_sub W (by decide)) ?_ _ _ iμ8
        intro r12 μ11 iμ11
        refine ⟨?_, ?_⟩
        · intro e5
          exact hQ _ iμ11
        · intro e6
          exact jfX12_readTerm_30 (I := I) (gw_sub W (by decide)) hre (k5 := vX12_readTerm_5 re Q n) (fun _ _ i => ih _ _ i) hQ _ _ iμ11
def vX12_readTerm (re : Int32 → km_S → (km_S → Prop) → Prop) (l1 : Int32) (μ : km_S) (Q : km_S → Prop) : Prop := vX12_readPart re l1 μ (fun μ14 => ∀ j, vX12_readTerm_5 re Q j l1 μ14)
set_option maxRecDepth 100000 in
set_option maxHeartbeats 4000000 in
theorem jcX12_readTerm {re re' : Int32 → km_S → (km_S → Prop) → Prop} (hre : ∀ {P P' P'' : km_S → Prop}, (∀ y0, P y0 → P' y0 → P'' y0) → ∀ (x0 : Int32) (x1 : km_S), re x0 x1 P → re' x0 x1 P' → re x0 x1 P'') {Q Q' Q'' : km_S → Prop} (hQ : ∀ y0, Q y0 → Q' y0 → Q'' y0) : ∀ (l1 : Int32) (μ : km_S), wX12_readTerm re l1 μ Q → vX12_readTerm re' l1 μ Q' → wX12_readTerm re l1 μ Q'' := by
  intro l1 μ h v
  unfold wX12_readTerm at h
  unfold vX12_readTerm at v
  unfold wX12_readTerm
  refine jcX12_readPart hre ?_ _ _ h v
  intro μ14 h v
  obtain ⟨j, h⟩ := h
  refine ⟨j, ?_⟩
  have v := v j
  exact jcX12_readTerm_5 hre hQ _ _ _ h v
set_option maxRecDepth 100000 in
set_option maxHeartbeats 4000000 in
theorem jaX12_readTerm {re re' : Int32 → km_S → (km_S → Prop) → Prop} (hre : ∀ {P P' : km_S → Prop}, (∀ y0, P y0 → P' y0) → ∀ (x0 : Int32) (x1 : km_S), re x0 x1 P → re' x0 x1 P') {Q Q' : km_S → Prop} (hQ : ∀ y0, Q y0 → Q' y0) : ∀ (l1 : Int32) (μ : km_S), wX12_readTerm re l1 μ Q → vX12_readTerm re' l1 μ Q' := by
  intro l1 μ h
  unfold wX12_readTerm at h
  unfold vX12_readTerm
  refine jaX12_readPart hre ?_ _ _ h
  intro μ14 h
  obtain ⟨j, h⟩ := h
  intro j9
  exact jaX12_readTerm_5 hre hQ _ j9 _ _ h
set_option maxRecDepth 100000 in
set_option maxHeartbeats 4000000 in
theorem jfX12_readTerm {I : km_S → Prop} (W : gw_ I [56, 59, 60, 62, 63, 64, 65, 66, 67]) {re : Int32 → km_S → (km_S → Prop) → Prop} (hre : ∀ {P : km_S → Prop}, (∀ y0, I y0 → P y0) → ∀ (x0 : Int32) (x1 : km_S), I x1 → re x0 x1 P) {Q : km_S → Prop} (hQ : ∀ y0, I y0 → Q y0) : ∀ (l1 : Int32) (μ : km_S), I μ → vX12_readTerm re l1 μ Q := by
  intro l1 μ i
  unfold vX12_readTerm
  refine jfX12_readPart (I := I) (gw_sub W (by decide)) hre ?_ _ _ i
  intro μ14 iμ14
  intro j
  exact jfX12_readTerm_5 (I := I) (gw_sub W (by decide)) hre hQ _ _ _ iμ14
def vX12_readSum_44 (re : Int32 → km_S → (km_S → Prop) → Prop) (k5 : Int32 → km_S → Prop) (Q : km_S → Prop) (l1 : Int32) (s0 : Int32) (μ : km_S) : Prop := vX12_step μ (fun μ1 => vX12_readTerm re l1 μ1 (fun μ2 => vX12_emit s0 μ2 (fun μ3 => k5 l1 μ3)))
set_option maxRecDepth 100000 in
set_option maxHeartbeats 4000000 in
theorem jcX12_readSum_44 {re re' : Int32 → km_S → (km_S → Prop) → Prop} (hre : ∀ {P P' P'' : km_S → Prop}, (∀ y0, P y0 → P' y0 → P'' y0) → ∀ (x0 : Int32) (x1 : km_S), re x0 x1 P → re' x0 x1 P' → re x0 x1 P'') {k5 k5' k5'' : Int32 → km_S → Prop} (hk5 : ∀ y0 y1, k5 y0 y1 → k5' y0 y1 → k5'' y0 y1) {Q Q' Q'' : km_S → Prop} (hQ : ∀ y0, Q y0 → Q' y0 → Q'' y0) : ∀ (l1 : Int32) (s0 : Int32) (μ : km_S), wX12_readSum_44 re k5 Q l1 s0 μ → vX12_readSum_44 re' k5' Q' l1 s0 μ → wX12_readSum_44 re k5'' Q'' l1 s0 μ := by
  intro l1 s0 μ h v
  unfold wX12_readSum_44 at h
  unfold vX12_readSum_44 at v
  unfold wX12_readSum_44
  refine jcX12_step ?_ _ h v
  intro μ1 h v
  refine jcX12_readTerm hre ?_ _ _ h v
  intro μ2 h v
  refine jcX12_emit ?_ _ _ h v
  intro μ3 h v
  exact hk5 _ _ h v
set_option maxRecDepth 100000 in
set_option maxHeartbeats 4000000 in
theorem jaX12_readSum_44 {re re' : Int32 → km_S → (km_S → Prop) → Prop} (hre : ∀ {P P' : km_S → Prop}, (∀ y0, P y0 → P' y0) → ∀ (x0 : Int32) (x1 : km_S), re x0 x1 P → re' x0 x1 P') {k5 k5' : Int32 → km_S → Prop} (hk5 : ∀ y0 y1, k5 y0 y1 → k5' y0 y1) {Q Q' : km_S → Prop} (hQ : ∀ y0, Q y0 → Q' y0) : ∀ (l1 : Int32) (s0 : Int32) (μ : km_S), wX12_readSum_44 re k5 Q l1 s0 μ → vX12_readSum_44 re' k5' Q' l1 s0 μ := by
  intro l1 s0 μ h
  unfold wX12_readSum_44 at h
  unfold vX12_readSum_44
  refine jaX12_step ?_ _ h
  intro μ1 h
  refine jaX12_readTerm hre ?_ _ _ h
  intro μ2 h
  refine jaX12_emit ?_ _ _ h
  intro μ3 h
  exact hk5 _ _ h
set_option maxRecDepth 100000 in
set_option maxHeartbeats 4000000 in
theorem jfX12_readSum_44 {I : km_S → Prop} (W : gw_ I [56, 59, 60, 62, 63, 64, 65, 66, 67]) {re : Int32 → km_S → (km_S → Prop) → Prop} (hre : ∀ {P : km_S → Prop}, (∀ y0, I y0 → P y0) → ∀ (x0 : Int32) (x1 : km_S), I x1 → re x0 x1 P) {k5 : Int32 → km_S → Prop} (hk5 : ∀ y0 y1, I y1 → k5 y0 y1) {Q : km_S → Prop} (hQ : ∀ y0, I y0 → Q y0) : ∀ (l1 : Int32) (s0 : Int32) (μ : km_S), I μ → vX12_readSum_44 re k5 Q l1 s0 μ := by
  intro l1 s0 μ i
  unfold vX12_readSum_44
  refine jfX12_step (I := I) (gw_sub W (by decide)) ?_ _ i
  intro μ1 iμ1
  refine jfX12_readTerm (I := I) (gw_sub W (by decide)) hre ?_ _ _ iμ1
  intro μ2 iμ2
  refine jfX12_emit (I := I) (gw_sub W (by decide)) ?_ _ _ iμ2
  intro μ3 iμ3
  exact hk5 _ _ iμ3
def vX12_readSum_30 (re : Int32 → km_S → (km_S → Prop) → Prop) (k5 : Int32 → km_S → Prop) (Q : km_S → Prop) (l1 : Int32) (μ : km_S) : Prop := vX12_isSign 43 μ (fun r5 μ4 => ((r5 = 0 → vX12_readSum_44 re k5 Q l1 2 μ4) ∧ (¬ (r5 = 0) → vX12_readSum_44 re k5 Q l1 1 μ4)))
set_option maxRecDepth 100000 in
set_option maxHeartbeats 4000000 in
theorem jcX12_readSum_30 {re re' : Int32 → km_S → (km_S → Prop) → Prop} (hre : ∀ {P P' P'' : km_S → Prop}, (∀ y0, P y0 → P' y0 → P'' y0) → ∀ (x0 : Int32) (x1 : km_S), re x0 x1 P → re' x0 x1 P' → re x0 x1 P'') {k5 k5' k5'' : Int32 → km_S → Prop} (hk5 : ∀ y0 y1, k5 y0 y1 → k5' y0 y1 → k5'' y0 y1) {Q Q' Q'' : km_S → Prop} (hQ : ∀ y0, Q y0 → Q' y0 → Q'' y0) : ∀ (l1 : Int32) (μ : km_S), wX12_readSum_30 re k5 Q l1 μ → vX12_readSum_30 re' k5' Q' l1 μ → wX12_readSum_30 re k5'' Q'' l1 μ := by
  intro l1 μ h v
  unfold wX12_readSum_30 at h
  unfold vX12_readSum_30 at v
  unfold wX12_readSum_30
  refine jcX12_isSign ?_ _ _ h v
  intro r5 μ4 h v
  refine ⟨?_, ?_⟩
  · have h := h.1
    have v := v.1
    intro e1
    have h := h e1
    have v := v e1
    exact jcX12_readSum_44 hre hk5 hQ _ _ _ h v
  · have h := h.2
    have v := v.2
    intro e2
    have h := h e2
    have v := v e2
    exact jcX12_readSum_44 hre hk5 hQ _ _ _ h v
set_option maxRecDepth 100000 in
set_option maxHeartbeats 4000000 in
theorem jaX12_readSum_30 {re re' : Int32 → km_S → (km_S → Prop) → Prop} (hre : ∀ {P P' : km_S → Prop}, (∀ y0, P y0 → P' y0) → ∀ (x0 : Int32) (x1 : km_S), re x0 x1 P → re' x0 x1 P') {k5 k5' : Int32 → km_S → Prop} (hk5 : ∀ y0 y1, k5 y0 y1 → k5' y0 y1) {Q Q' : km_S → Prop} (hQ : ∀ y0, Q y0 → Q' y0) : ∀ (l1 : Int32) (μ : km_S), wX12_readSum_30 re k5 Q l1 μ → vX12_readSum_30 re' k5' Q' l1 μ := by
  intro l1 μ h
  unfold wX12_readSum_30 at h
  unfold vX12_readSum_30
  refine jaX12_isSign ?_ _ _ h
  intro r5 μ4 h
  refine ⟨?_, ?_⟩
  · have h := h.1
    intro e1
    have h := h e1
    exact jaX12_readSum_44 hre hk5 hQ _ _ _ h
  · have h := h.2
    intro e2
    have h := h e2
    exact jaX12_readSum_44 hre hk5 hQ _ _ _ h
set_option maxRecDepth 100000 in
set_option maxHeartbeats 4000000 in
theorem jfX12_readSum_30 {I : km_S → Prop} (W : gw_ I [56, 59, 60, 62, 63, 64, 65, 66, 67]) {re : Int32 → km_S → (km_S → Prop) → Prop} (hre : ∀ {P : km_S → Prop}, (∀ y0, I y0 → P y0) → ∀ (x0 : Int32) (x1 : km_S), I x1 → re x0 x1 P) {k5 : Int32 → km_S → Prop} (hk5 : ∀ y0 y1, I y1 → k5 y0 y1) {Q : km_S → Prop} (hQ : ∀ y0, I y0 → Q y0) : ∀ (l1 : Int32) (μ : km_S), I μ → vX12_readSum_30 re k5 Q l1 μ := by
  intro l1 μ i
  unfold vX12_readSum_30
  refine jfX12_isSign (I := I) (gw_sub W (by decide)) ?_ _ _ i
  intro r5 μ4 iμ4
  refine ⟨?_, ?_⟩
  · intro e1
    exact jfX12_readSum_44 (I := I) (gw_sub W (by decide)) hre hk5 hQ _ _ _ iμ4
  · intro e2
    exact jfX12_readSum_44 (I := I) (gw_sub W (by decide)) hre hk5 hQ _ _ _ iμ4
def vX12_readSum_5 (re : Int32 → km_S → (km_S → Prop) → Prop) (Q : km_S → Prop) : Nat → Int32 → km_S → Prop
  | 0, _, _ => True
  | n + 1, l1, μ => ((¬ (km_i μ 66) = 0 → Q μ) ∧ ((km_i μ 66) = 0 → vX12_isSign 43 μ (fun r9 μ8 => ((¬ r9 = 0 → vX12_readSum_30 re (vX12_readSum_5 re Q n) Q l1 μ8) ∧ (r9 = 0 → vX12_isSign 45 μ8 (fun r12 μ11 => ((r12 = 0 → Q μ11) ∧ (¬ (r12 = 0) → vX12_readSum_30 re (vX12_readSum_5 re Q n) Q l1 μ11))))))))
set_option maxRecDepth 100000 in
set_option maxHeartbeats 4000000 in
theorem jcX12_readSum_5 {re re' : Int32 → km_S → (km_S → Prop) → Prop} (hre : ∀ {P P' P'' : km_S → Prop}, (∀ y0, P y0 → P' y0 → P'' y0) → ∀ (x0 : Int32) (x1 : km_S), re x0 x1 P → re' x0 x1 P' → re x0 x1 P'') {Q Q' Q'' : km_S → Prop} (hQ : ∀ y0, Q y0 → Q' y0 → Q'' y0) : ∀ (n : Nat) (l1 : Int32) (μ : km_S), wX12_readSum_5 re Q n l1 μ → vX12_readSum_5 re' Q' n l1 μ → wX12_readSum_5 re Q'' n l1 μ := by
  intro n
  induction n with
  | zero => intro l1 μ h; exact h.elim
  | succ n ih =>
    intro l1 μ h v
    unfold wX12_readSum_5 at h
    unfold vX12_readSum_5 at v
    unfold wX12_readSum_5
    refine ⟨?_, ?_⟩
    · have h := h.1
      have v := v.1
      intro e1
      have h := h e1
      have v := v e1
      exact hQ _ h v
    · have h := h.2
      have v := v.2
      intro e2
      have h := h e2
      have v := v e2
      refine jcX12_isSign ?_ _ _ h v
      intro r9 μ8 h v
      refine ⟨?_, ?_⟩
      · have h := h.1
        have v := v.1
        intro e3
        have h := h e3
        have v := v e3
        exact jcX12_readSum_30 hre (k5 := wX12_readSum_5 re Q n) (k5' := vX12_readSum_5 re' Q' n) (k5'' := wX12_readSum_5 re Q'' n) (fun _ _ h v => ih _ _ h v) hQ _ _ h v
      · have h := h.2
        have v := v.2
        intro e4
        have h := h e4
        have v := v e4
        refine jcX12_isSign ?_ _ _ h v
        intro r12 μ11 h v
        refine ⟨?_, ?_⟩
        · have h := h.1
          have v := v.1
          intro e5
          have h := h e5
          have v := v e5
          exact hQ _ h v
        · have h := h.2
          have v := v.2
          intro e6
          have h := h e6
          have v := v e6
          exact jcX12_readSum_30 hre (k5 := wX12_readSum_5 re Q n) (k5' := vX12_readSum_5 re' Q' n) (k5'' := wX12_readSum_5 re Q'' n) (fun _ _ h v => ih _ _ h v) hQ _ _ h v
set_option maxRecDepth 100000 in
set_option maxHeartbeats 4000000 in
theorem jaX12_readSum_5 {re re' : Int32 → km_S → (km_S → Prop) → Prop} (hre : ∀ {P P' : km_S → Prop}, (∀ y0, P y0 → P' y0) → ∀ (x0 : Int32) (x1 : km_S), re x0 x1 P → re' x0 x1 P') {Q Q' : km_S → Prop} (hQ : ∀ y0, Q y0 → Q' y0) : ∀ (n m : Nat) (l1 : Int32) (μ : km_S), wX12_readSum_5 re Q n l1 μ → vX12_readSum_5 re' Q' m l1 μ := by
  intro n
  induction n with
  | zero => intro m l1 μ h; exact h.elim
  | succ n ih =>
    intro m l1 μ h
    cases m with
    | zero => exact trivial
    | succ m =>
      unfold wX12_readSum_5 at h
      unfold vX12_readSum_5
      refine ⟨?_, ?_⟩
      · have h := h.1
        intro e1
        have h := h e1
        exact hQ _ h
      · have h := h.2
        intro e2
        have h := h e2
        refine jaX12_isSign ?_ _ _ h
        intro r9 μ8 h
        refine ⟨?_, ?_⟩
        · have h := h.1
          intro e3
          have h := h e3
          exact jaX12_readSum_30 hre (k5 := wX12_readSum_5 re Q n) (k5' := vX12_readSum_5 re' Q' m) (fun _ _ h => ih m _ _ h) hQ _ _ h
        · have h := h.2
          intro e4
          have h := h e4
          refine jaX12_isSign ?_ _ _ h
          intro r12 μ11 h
          refine ⟨?_, ?_⟩
          · have h := h.1
            intro e5
            have h := h e5
            exact hQ _ h
          · have h := h.2
            intro e6
            have h := h e6
            exact jaX12_readSum_30 hre (k5 := wX12_readSum_5 re Q n) (k5' := vX12_readSum_5 re' Q' m) (fun _ _ h => ih m _ _ h) hQ _ _ h
set_option maxRecDepth 100000 in
set_option maxHeartbeats 4000000 in
theorem jfX12_readSum_5 {I : km_S → Prop} (W : gw_ I [56, 59, 60, 62, 63, 64, 65, 66, 67]) {re : Int32 → km_S → (km_S → Prop) → Prop} (hre : ∀ {P : km_S → Prop}, (∀ y0, I y0 → P y0) → ∀ (x0 : Int32) (x1 : km_S), I x1 → re x0 x1 P) {Q : km_S → Prop} (hQ : ∀ y0, I y0 → Q y0) : ∀ (n : Nat) (l1 : Int32) (μ : km_S), I μ → vX12_readSum_5 re Q n l1 μ := by
  intro n
  induction n with
  | zero => intro l1 μ i; exact trivial
  | succ n ih =>
    intro l1 μ i
    unfold vX12_readSum_5
    refine ⟨?_, ?_⟩
    · intro e1
      exact hQ _ i
    · intro e2
      refine jfX12_isSign (I := I) (gw_sub W (by decide)) ?_ _ _ i
      intro r9 μ8 iμ8
      refine ⟨?_, ?_⟩
      · intro e3
        exact jfX12_readSum_30 (I := I) (gw_sub W (by decide)) hre (k5 := vX12_readSum_5 re Q n) (fun _ _ i => ih _ _ i) hQ _ _ iμ8
      · intro e4
        refine jfX12_isSign (I := I) (gw_sub W (by decide)) ?_ _ _ iμ8
        intro r12 μ11 iμ11
        refine ⟨?_, ?_⟩
        · intro e5
          exact hQ _ iμ11
        · intro e6
          exact jfX12_readSum_30 (I := I) (gw_sub W (by decide)) hre (k5 := vX12_readSum_5 re Q n) (fun _ _ i => ih _ _ i) hQ _ _ iμ11
def vX12_readSum (re : Int32 → km_S → (km_S → Prop) → Prop) (l1 : Int32) (μ : km_S) (Q : km_S → Prop) : Prop := vX12_readTerm re l1 μ (fun μ14 => ∀ j, vX12_readSum_5 re Q j l1 μ14)
set_option maxRecDepth 100000 in
set_option maxHeartbeats 4000000 in
theorem jcX12_readSum {re re' : Int32 → km_S → (km_S → Prop) → Prop} (hre : ∀ {P P' P'' : km_S → Prop}, (∀ y0, P y0 → P' y0 → P'' y0) → ∀ (x0 : Int32) (x1 : km_S), re x0 x1 P → re' x0 x1 P' → re x0 x1 P'') {Q Q' Q'' : km_S → Prop} (hQ : ∀ y0, Q y0 → Q' y0 → Q'' y0) : ∀ (l1 : Int32) (μ : km_S), wX12_readSum re l1 μ Q → vX12_readSum re' l1 μ Q' → wX12_readSum re l1 μ Q'' := by
  intro l1 μ h v
  unfold wX12_readSum at h
  unfold vX12_readSum at v
  unfold wX12_readSum
  refine jcX12_readTerm hre ?_ _ _ h v
  intro μ14 h v
  obtain ⟨j, h⟩ := h
  refine ⟨j, ?_⟩
  have v := v j
  exact jcX12_readSum_5 hre hQ _ _ _ h v
set_option maxRecDepth 100000 in
set_option maxHeartbeats 4000000 in
theorem jaX12_readSum {re re' : Int32 → km_S → (km_S → Prop) → Prop} (hre : ∀ {P P' : km_S → Prop}, (∀ y0, P y0 → P' y0) → ∀ (x0 : Int32) (x1 : km_S), re x0 x1 P → re' x0 x1 P') {Q Q' : km_S → Prop} (hQ : ∀ y0, Q y0 → Q' y0) : ∀ (l1 : Int32) (μ : km_S), wX12_readSum re l1 μ Q → vX12_readSum re' l1 μ Q' := by
  intro l1 μ h
  unfold wX12_readSum at h
  unfold vX12_readSum
  refine jaX12_readTerm hre ?_ _ _ h
  intro μ14 h
  obtain ⟨j, h⟩ := h
  intro j9
  exact jaX12_readSum_5 hre hQ _ j9 _ _ h
set_option maxRecDepth 100000 in
set_option maxHeartbeats 4000000 in
theorem jfX12_readSum {I : km_S → Prop} (W : gw_ I [56, 59, 60, 62, 63, 64, 65, 66, 67]) {re : Int32 → km_S → (km_S → Prop) → Prop} (hre : ∀ {P : km_S → Prop}, (∀ y0, I y0 → P y0) → ∀ (x0 : Int32) (x1 : km_S), I x1 → re x0 x1 P) {Q : km_S → Prop} (hQ : ∀ y0, I y0 → Q y0) : ∀ (l1 : Int32) (μ : km_S), I μ → vX12_readSum re l1 μ Q := by
  intro l1 μ i
  unfold vX12_readSum
  refine jfX12_readTerm (I := I) (gw_sub W (by decide)) hre ?_ _ _ i
  intro μ14 iμ14
  intro j
  exact jfX12_readSum_5 (I := I) (gw_sub W (by decide)) hre hQ _ _ _ iμ14
def vX12_readTest_76 (re : Int32 → km_S → (km_S → Prop) → Prop) (Q : km_S → Prop) (l2 : Int32) (μ : km_S) : Prop := ((l2 = 0 → Q μ) ∧ (¬ (l2 = 0) → vX12_emit 9 μ (fun μ2 => Q μ2)))
set_option maxRecDepth 100000 in
set_option maxHeartbeats 4000000 in
theorem jcX12_readTest_76 {re re' : Int32 → km_S → (km_S → Prop) → Prop} (hre : ∀ {P P' P'' : km_S → Prop}, (∀ y0, P y0 → P' y0 → P'' y0) → ∀ (x0 : Int32) (x1 : km_S), re x0 x1 P → re' x0 x1 P' → re x0 x1 P'') {Q Q' Q'' : km_S → Prop} (hQ : ∀ y0, Q y0 → Q' y0 → Q'' y0) : ∀ (l2 : Int32) (μ : km_S), wX12_readTest_76 re Q l2 μ → vX12_readTest_76 re' Q' l2 μ → wX12_readTest_76 re Q'' l2 μ := by
  intro l2 μ h v
  unfold wX12_readTest_76 at h
  unfold vX12_readTest_76 at v
  unfold wX12_readTest_76
  refine ⟨?_, ?_⟩
  · have h := h.1
    have v := v.1
    intro e1
    have h := h e1
    have v := v e1
    exact hQ _ h v
  · have h := h.2
    have v := v.2
    intro e2
    have h := h e2
    have v := v e2
    refine jcX12_emit ?_ _ _ h v
    intro μ2 h v
    exact hQ _ h v
set_option maxRecDepth 100000 in
set_option maxHeartbeats 4000000 in
theorem jaX12_readTest_76 {re re' : Int32 → km_S → (km_S → Prop) → Prop} (hre : ∀ {P P' : km_S → Prop}, (∀ y0, P y0 → P' y0) → ∀ (x0 : Int32) (x1 : km_S), re x0 x1 P → re' x0 x1 P') {Q Q' : km_S → Prop} (hQ : ∀ y0, Q y0 → Q' y0) : ∀ (l2 : Int32) (μ : km_S), wX12_readTest_76 re Q l2 μ → vX12_readTest_76 re' Q' l2 μ := by
  intro l2 μ h
  unfold wX12_readTest_76 at h
  unfold vX12_readTest_76
  refine ⟨?_, ?_⟩
  · have h := h.1
    intro e1
    have h := h e1
    exact hQ _ h
  · have h := h.2
    intro e2
    have h := h e2
    refine jaX12_emit ?_ _ _ h
    intro μ2 h
    exact hQ _ h
set_option maxRecDepth 100000 in
set_option maxHeartbeats 4000000 in
theorem jfX12_readTest_76 {I : km_S → Prop} (W : gw_ I [56, 59, 60, 62, 63, 64, 65, 66, 67]) {re : Int32 → km_S → (km_S → Prop) → Prop} (hre : ∀ {P : km_S → Prop}, (∀ y0, I y0 → P y0) → ∀ (x0 : Int32) (x1 : km_S), I x1 → re x0 x1 P) {Q : km_S → Prop} (hQ : ∀ y0, I y0 → Q y0) : ∀ (l2 : Int32) (μ : km_S), I μ → vX12_readTest_76 re Q l2 μ := by
  intro l2 μ i
  unfold vX12_readTest_76
  refine ⟨?_, ?_⟩
  · intro e1
    exact hQ _ i
  · intro e2
    refine jfX12_emit (I := I) (gw_sub W (by decide)) ?_ _ _ i
    intro μ2 iμ2
    exact hQ _ iμ2
def vX12_readTest_61 (re : Int32 → km_S → (km_S → Prop) → Prop) (k76 : Int32 → km_S → Prop) (Q : km_S → Prop) (l1 : Int32) (l2 : Int32) (s0 : Int32) (μ : km_S) : Prop := vX12_step μ (fun μ3 => vX12_readSum re l1 μ3 (fun μ4 => vX12_emit s0 μ4 (fun μ5 => k76 l2 μ5)))
set_option maxRecDepth 100000 in
set_option maxHeartbeats 4000000 in
theorem jcX12_readTest_61 {re re' : Int32 → km_S → (km_S → Prop) → Prop} (hre : ∀ {P P' P'' : km_S → Prop}, (∀ y0, P y0 → P' y0 → P'' y0) → ∀ (x0 : Int32) (x1 : km_S), re x0 x1 P → re' x0 x1 P' → re x0 x1 P'') {k76 k76' k76'' : Int32 → km_S → Prop} (hk76 : ∀ y0 y1, k76 y0 y1 → k76' y0 y1 → k76'' y0 y1) {Q Q' Q'' : km_S → Prop} (hQ : ∀ y0, Q y0 → Q' y0 → Q'' y0) : ∀ (l1 : Int32) (l2 : Int32) (s0 : Int32) (μ : km_S), wX12_readTest_61 re k76 Q l1 l2 s0 μ → vX12_readTest_61 re' k76' Q' l1 l2 s0 μ → wX12_readTest_61 re k76'' Q'' l1 l2 s0 μ := by
  intro l1 l2 s0 μ h v
  unfold wX12_readTest_61 at h
  unfold vX12_readTest_61 at v
  unfold wX12_readTest_61
  refine jcX12_step ?_ _ h v
  intro μ3 h v
  refine jcX12_readSum hre ?_ _ _ h v
  intro μ4 h v
  refine jcX12_emit ?_ _ _ h v
  intro μ5 h v
  exact hk76 _ _ h v
set_option maxRecDepth 100000 in
set_option maxHeartbeats 4000000 in
theorem jaX12_readTest_61 {re re' : Int32 → km_S → (km_S → Prop) → Prop} (hre : ∀ {P P' : km_S → Prop}, (∀ y0, P y0 → P' y0) → ∀ (x0 : Int32) (x1 : km_S), re x0 x1 P → re' x0 x1 P') {k76 k76' : Int32 → km_S → Prop} (hk76 : ∀ y0 y1, k76 y0 y1 → k76' y0 y1) {Q Q' : km_S → Prop} (hQ : ∀ y0, Q y0 → Q' y0) : ∀ (l1 : Int32) (l2 : Int32) (s0 : Int32) (μ : km_S), wX12_readTest_61 re k76 Q l1 l2 s0 μ → vX12_readTest_61 re' k76' Q' l1 l2 s0 μ := by
  intro l1 l2 s0 μ h
  unfold wX12_readTest_61 at h
  unfold vX12_readTest_61
  refine jaX12_step ?_ _ h
  intro μ3 h
  refine jaX12_readSum hre ?_ _ _ h
  intro μ4 h
  refine jaX12_emit ?_ _ _ h
  intro μ5 h
  exact hk76 _ _ h
set_option maxRecDepth 100000 in
set_option maxHeartbeats 4000000 in
theorem jfX12_readTest_61 {I : km_S → Prop} (W : gw_ I [56, 59, 60, 62, 63, 64, 65, 66, 67]) {re : Int32 → km_S → (km_S → Prop) → Prop} (hre : ∀ {P : km_S → Prop}, (∀ y0, I y0 → P y0) → ∀ (x0 : Int32) (x1 : km_S), I x1 → re x0 x1 P) {k76 : Int32 → km_S → Prop} (hk76 : ∀ y0 y1, I y1 → k76 y0 y1) {Q : km_S → Prop} (hQ : ∀ y0, I y0 → Q y0) : ∀ (l1 : Int32) (l2 : Int32) (s0 : Int32) (μ : km_S), I μ → vX12_readTest_61 re k76 Q l1 l2 s0 μ := by
  intro l1 l2 s0 μ i
  unfold vX12_readTest_61
  refine jfX12_step (I := I) (gw_sub W (by decide)) ?_ _ i
  intro μ3 iμ3
  refine jfX12_readSum (I := I) (gw_sub W (by decide)) hre ?_ _ _ iμ3
  intro μ4 iμ4
  refine jfX12_emit (I := I) (gw_sub W (by decide)) ?_ _ _ iμ4
  intro μ5 iμ5
  exact hk76 _ _ iμ5
end
section
def vX12_readTest_46 (re : Int32 → km_S → (km_S → Prop) → Prop) (k76 : Int32 → km_S → Prop) (Q : km_S → Prop) (l1 : Int32) (l2 : Int32) (μ : km_S) : Prop := vX12_isSign 60 μ (fun r7 μ6 => ((r7 = 0 → vX12_readTest_61 re k76 Q l1 l2 6 μ6) ∧ (¬ (r7 = 0) → vX12_readTest_61 re k76 Q l1 l2 5 μ6)))
set_option maxRecDepth 100000 in
set_option maxHeartbeats 4000000 in
theorem jcX12_readTest_46 {re re' : Int32 → km_S → (km_S → Prop) → Prop} (hre : ∀ {P P' P'' : km_S → Prop}, (∀ y0, P y0 → P' y0 → P'' y0) → ∀ (x0 : Int32) (x1 : km_S), re x0 x1 P → re' x0 x1 P' → re x0 x1 P'') {k76 k76' k76'' : Int32 → km_S → Prop} (hk76 : ∀ y0 y1, k76 y0 y1 → k76' y0 y1 → k76'' y0 y1) {Q Q' Q'' : km_S → Prop} (hQ : ∀ y0, Q y0 → Q' y0 → Q'' y0) : ∀ (l1 : Int32) (l2 : Int32) (μ : km_S), wX12_readTest_46 re k76 Q l1 l2 μ → vX12_readTest_46 re' k76' Q' l1 l2 μ → wX12_readTest_46 re k76'' Q'' l1 l2 μ := by
  intro l1 l2 μ h v
  unfold wX12_readTest_46 at h
  unfold vX12_readTest_46 at v
  unfold wX12_readTest_46
  refine jcX12_isSign ?_ _ _ h v
  intro r7 μ6 h v
  refine ⟨?_, ?_⟩
  · have h := h.1
    have v := v.1
    intro e1
    have h := h e1
    have v := v e1
    exact jcX12_readTest_61 hre hk76 hQ _ _ _ _ h v
  · have h := h.2
    have v := v.2
    intro e2
    have h := h e2
    have v := v e2
    exact jcX12_readTest_61 hre hk76 hQ _ _ _ _ h v
set_option maxRecDepth 100000 in
set_option maxHeartbeats 4000000 in
theorem jaX12_readTest_46 {re re' : Int32 → km_S → (km_S → Prop) → Prop} (hre : ∀ {P P' : km_S → Prop}, (∀ y0, P y0 → P' y0) → ∀ (x0 : Int32) (x1 : km_S), re x0 x1 P → re' x0 x1 P') {k76 k76' : Int32 → km_S → Prop} (hk76 : ∀ y0 y1, k76 y0 y1 → k76' y0 y1) {Q Q' : km_S → Prop} (hQ : ∀ y0, Q y0 → Q' y0) : ∀ (l1 : Int32) (l2 : Int32) (μ : km_S), wX12_readTest_46 re k76 Q l1 l2 μ → vX12_readTest_46 re' k76' Q' l1 l2 μ := by
  intro l1 l2 μ h
  unfold wX12_readTest_46 at h
  unfold vX12_readTest_46
  refine jaX12_isSign ?_ _ _ h
  intro r7 μ6 h
  refine ⟨?_, ?_⟩
  · have h := h.1
    intro e1
    have h := h e1
    exact jaX12_readTest_61 hre hk76 hQ _ _ _ _ h
  · have h := h.2
    intro e2
    have h := h e2
    exact jaX12_readTest_61 hre hk76 hQ _ _ _ _ h
set_option maxRecDepth 100000 in
set_option maxHeartbeats 4000000 in
theorem jfX12_readTest_46 {I : km_S → Prop} (W : gw_ I [56, 59, 60, 62, 63, 64, 65, 66, 67]) {re : Int32 → km_S → (km_S → Prop) → Prop} (hre : ∀ {P : km_S → Prop}, (∀ y0, I y0 → P y0) → ∀ (x0 : Int32) (x1 : km_S), I x1 → re x0 x1 P) {k76 : Int32 → km_S → Prop} (hk76 : ∀ y0 y1, I y1 → k76 y0 y1) {Q : km_S → Prop} (hQ : ∀ y0, I y0 → Q y0) : ∀ (l1 : Int32) (l2 : Int32) (μ : km_S), I μ → vX12_readTest_46 re k76 Q l1 l2 μ := by
  intro l1 l2 μ i
  unfold vX12_readTest_46
  refine jfX12_isSign (I := I) (gw_sub W (by decide)) ?_ _ _ i
  intro r7 μ6 iμ6
  refine ⟨?_, ?_⟩
  · intro e1
    exact jfX12_readTest_61 (I := I) (gw_sub W (by decide)) hre hk76 hQ _ _ _ _ iμ6
  · intro e2
    exact jfX12_readTest_61 (I := I) (gw_sub W (by decide)) hre hk76 hQ _ _ _ _ iμ6
def vX12_readTest_16 (re : Int32 → km_S → (km_S → Prop) → Prop) (Q : km_S → Prop) (l1 : Int32) (l2 : Int32) (μ : km_S) : Prop := vX12_readSum re l1 μ (fun μ9 => ((¬ (km_i μ9 66) = 0 → vX12_readTest_76 re Q l2 μ9) ∧ ((km_i μ9 66) = 0 → vX12_isSign 60 μ9 (fun r12 μ11 => ((¬ r12 = 0 → vX12_readTest_46 re (vX12_readTest_76 re Q) Q l1 l2 μ11) ∧ (r12 = 0 → vX12_isSign 61 μ11 (fun r15 μ14 => ((r15 = 0 → vX12_readTest_76 re Q l2 μ14) ∧ (¬ (r15 = 0) → vX12_readTest_46 re (vX12_readTest_76 re Q) Q l1 l2 μ14)))))))))
set_option maxRecDepth 100000 in
set_option maxHeartbeats 4000000 in
theorem jcX12_readTest_16 {re re' : Int32 → km_S → (km_S → Prop) → Prop} (hre : ∀ {P P' P'' : km_S → Prop}, (∀ y0, P y0 → P' y0 → P'' y0) → ∀ (x0 : Int32) (x1 : km_S), re x0 x1 P → re' x0 x1 P' → re x0 x1 P'') {Q Q' Q'' : km_S → Prop} (hQ : ∀ y0, Q y0 → Q' y0 → Q'' y0) : ∀ (l1 : Int32) (l2 : Int32) (μ : km_S), wX12_readTest_16 re Q l1 l2 μ → vX12_readTest_16 re' Q' l1 l2 μ → wX12_readTest_16 re Q'' l1 l2 μ := by
  intro l1 l2 μ h v
  unfold wX12_readTest_16 at h
  unfold vX12_readTest_16 at v
  unfold wX12_readTest_16
  refine jcX12_readSum hre ?_ _ _ h v
  intro μ9 h v
  refine ⟨?_, ?_⟩
  · have h := h.1
    have v := v.1
    intro e1
    have h := h e1
    have v := v e1
    exact jcX12_readTest_76 hre hQ _ _ h v
  · have h := h.2
    have v := v.2
    intro e2
    have h := h e2
    have v := v e2
    refine jcX12_isSign ?_ _ _ h v
    intro r12 μ11 h v
    refine ⟨?_, ?_⟩
    · have h := h.1
      have v := v.1
      intro e3
      have h := h e3
      have v := v e3
      exact jcX12_readTest_46 hre (k76 := wX12_readTest_76 re Q) (k76' := vX12_readTest_76 re' Q') (k76'' := wX12_readTest_76 re Q'') (fun _ _ h v => jcX12_readTest_76 hre hQ _ _ h v) hQ _ _ _ h v
    · have h := h.2
      have v := v.2
      intro e4
      have h := h e4
      have v := v e4
      refine jcX12_isSign ?_ _ _ h v
      intro r15 μ14 h v
      refine ⟨?_, ?_⟩
      · have h := h.1
        have v := v.1
        intro e5
        have h := h e5
        have v := v e5
        exact jcX12_readTest_76 hre hQ _ _ h v
      · have h := h.2
        have v := v.2
        intro e6
        have h := h e6
        have v := v e6
        exact jcX12_readTest_46 hre (k76 := wX12_readTest_76 re Q) (k76' := vX12_readTest_76 re' Q') (k76'' := wX12_readTest_76 re Q'') (fun _ _ h v => jcX12_readTest_76 hre hQ _ _ h v) hQ _ _ _ h v
set_option maxRecDepth 100000 in
set_option maxHeartbeats 4000000 in
theorem jaX12_readTest_16 {re re' : Int32 → km_S → (km_S → Prop) → Prop} (hre : ∀ {P P' : km_S → Prop}, (∀ y0, P y0 → P' y0) → ∀ (x0 : Int32) (x1 : km_S), re x0 x1 P → re' x0 x1 P') {Q Q' : km_S → Prop} (hQ : ∀ y0, Q y0 → Q' y0) : ∀ (l1 : Int32) (l2 : Int32) (μ : km_S), wX12_readTest_16 re Q l1 l2 μ → vX12_readTest_16 re' Q' l1 l2 μ := by
  intro l1 l2 μ h
  unfold wX12_readTest_16 at h
  unfold vX12_readTest_16
  refine jaX12_readSum hre ?_ _ _ h
  intro μ9 h
  refine ⟨?_, ?_⟩
  · have h := h.1
    intro e1
    have h := h e1
    exact jaX12_readTest_76 hre hQ _ _ h
  · have h := h.2
    intro e2
    have h := h e2
    refine jaX12_isSign ?_ _ _ h
    intro r12 μ11 h
    refine ⟨?_, ?_⟩
    · have h := h.1
      intro e3
      have h := h e3
      exact jaX12_readTest_46 hre (k76 := wX12_readTest_76 re Q) (k76' := vX12_readTest_76 re' Q') (fun _ _ h => jaX12_readTest_76 hre hQ _ _ h) hQ _ _ _ h
    · have h := h.2
      intro e4
      have h := h e4
      refine jaX12_isSign ?_ _ _ h
      intro r15 μ14 h
      refine ⟨?_, ?_⟩
      · have h := h.1
        intro e5
        have h := h e5
        exact jaX12_readTest_76 hre hQ _ _ h
      · have h := h.2
        intro e6
        have h := h e6
        exact jaX12_readTest_46 hre (k76 := wX12_readTest_76 re Q) (k76' := vX12_readTest_76 re' Q') (fun _ _ h => jaX12_readTest_76 hre hQ _ _ h) hQ _ _ _ h
set_option maxRecDepth 100000 in
set_option maxHeartbeats 4000000 in
theorem jfX12_readTest_16 {I : km_S → Prop} (W : gw_ I [56, 59, 60, 62, 63, 64, 65, 66, 67]) {re : Int32 → km_S → (km_S → Prop) → Prop} (hre : ∀ {P : km_S → Prop}, (∀ y0, I y0 → P y0) → ∀ (x0 : Int32) (x1 : km_S), I x1 → re x0 x1 P) {Q : km_S → Prop} (hQ : ∀ y0, I y0 → Q y0) : ∀ (l1 : Int32) (l2 : Int32) (μ : km_S), I μ → vX12_readTest_16 re Q l1 l2 μ := by
  intro l1 l2 μ i
  unfold vX12_readTest_16
  refine jfX12_readSum (I := I) (gw_sub W (by decide)) hre ?_ _ _ i
  intro μ9 iμ9
  refine ⟨?_, ?_⟩
  · intro e1
    exact jfX12_readTest_76 (I := I) (gw_sub W (by decide)) hre hQ _ _ iμ9
  · intro e2
    refine jfX12_isSign (I := I) (gw_sub W (by decide)) ?_ _ _ iμ9
    intro r12 μ11 iμ11
    refine ⟨?_, ?_⟩
    · intro e3
      exact jfX12_readTest_46 (I := I) (gw_sub W (by decide)) hre (k76 := vX12_readTest_76 re Q) (fun _ _ i => jfX12_readTest_76 (I := I) (gw_sub W (by decide)) hre hQ _ _ i) hQ _ _ _ iμ11
    · intro e4
      refine jfX12_isSign (I := I) (gw_sub W (by decide)) ?_ _ _ iμ11
      intro r15 μ14 iμ14
      refine ⟨?_, ?_⟩
      · intro e5
        exact jfX12_readTest_76 (I := I) (gw_sub W (by decide)) hre hQ _ _ iμ14
      · intro e6
        exact jfX12_readTest_46 (I := I) (gw_sub W (by decide)) hre (k76 := vX12_readTest_76 re Q) (fun _ _ i => jfX12_readTest_76 (I := I) (gw_sub W (by decide)) hre hQ _ _ i) hQ _ _ _ iμ14
def vX12_readTest (re : Int32 → km_S → (km_S → Prop) → Prop) (l1 : Int32) (μ : km_S) (Q : km_S → Prop) : Prop := vX12_isWord 11 μ (fun r18 μ17 => ((r18 = 0 → vX12_readTest_16 re Q l1 r18 μ17) ∧ (¬ (r18 = 0) → vX12_step μ17 (fun μ20 => vX12_readTest_16 re Q l1 r18 μ20))))
set_option maxRecDepth 100000 in
set_option maxHeartbeats 4000000 in
theorem jcX12_readTest {re re' : Int32 → km_S → (km_S → Prop) → Prop} (hre : ∀ {P P' P'' : km_S → Prop}, (∀ y0, P y0 → P' y0 → P'' y0) → ∀ (x0 : Int32) (x1 : km_S), re x0 x1 P → re' x0 x1 P' → re x0 x1 P'') {Q Q' Q'' : km_S → Prop} (hQ : ∀ y0, Q y0 → Q' y0 → Q'' y0) : ∀ (l1 : Int32) (μ : km_S), wX12_readTest re l1 μ Q → vX12_readTest re' l1 μ Q' → wX12_readTest re l1 μ Q'' := by
  intro l1 μ h v
  unfold wX12_readTest at h
  unfold vX12_readTest at v
  unfold wX12_readTest
  refine jcX12_isWord ?_ _ _ h v
  intro r18 μ17 h v
  refine ⟨?_, ?_⟩
  · have h := h.1
    have v := v.1
    intro e1
    have h := h e1
    have v := v e1
    exact jcX12_readTest_16 hre hQ _ _ _ h v
  · have h := h.2
    have v := v.2
    intro e2
    have h := h e2
    have v := v e2
    refine jcX12_step ?_ _ h v
    intro μ20 h v
    exact jcX12_readTest_16 hre hQ _ _ _ h v
set_option maxRecDepth 100000 in
set_option maxHeartbeats 4000000 in
theorem jaX12_readTest {re re' : Int32 → km_S → (km_S → Prop) → Prop} (hre : ∀ {P P' : km_S → Prop}, (∀ y0, P y0 → P' y0) → ∀ (x0 : Int32) (x1 : km_S), re x0 x1 P → re' x0 x1 P') {Q Q' : km_S → Prop} (hQ : ∀ y0, Q y0 → Q' y0) : ∀ (l1 : Int32) (μ : km_S), wX12_readTest re l1 μ Q → vX12_readTest re' l1 μ Q' := by
  intro l1 μ h
  unfold wX12_readTest at h
  unfold vX12_readTest
  refine jaX12_isWord ?_ _ _ h
  intro r18 μ17 h
  refine ⟨?_, ?_⟩
  · have h := h.1
    intro e1
    have h := h e1
    exact jaX12_readTest_16 hre hQ _ _ _ h
  · have h := h.2
    intro e2
    have h := h e2
    refine jaX12_step ?_ _ h
    intro μ20 h
    exact jaX12_readTest_16 hre hQ _ _ _ h
set_option maxRecDepth 100000 in
set_option maxHeartbeats 4000000 in
theorem jfX12_readTest {I : km_S → Prop} (W : gw_ I [56, 59, 60, 62, 63, 64, 65, 66, 67]) {re : Int32 → km_S → (km_S → Prop) → Prop} (hre : ∀ {P : km_S → Prop}, (∀ y0, I y0 → P y0) → ∀ (x0 : Int32) (x1 : km_S), I x1 → re x0 x1 P) {Q : km_S → Prop} (hQ : ∀ y0, I y0 → Q y0) : ∀ (l1 : Int32) (μ : km_S), I μ → vX12_readTest re l1 μ Q := by
  intro l1 μ i
  unfold vX12_readTest
  refine jfX12_isWord (I := I) (gw_sub W (by decide)) ?_ _ _ i
  intro r18 μ17 iμ17
  refine ⟨?_, ?_⟩
  · intro e1
    exact jfX12_readTest_16 (I := I) (gw_sub W (by decide)) hre hQ _ _ _ iμ17
  · intro e2
    refine jfX12_step (I := I) (gw_sub W (by decide)) ?_ _ iμ17
    intro μ20 iμ20
    exact jfX12_readTest_16 (I := I) (gw_sub W (by decide)) hre hQ _ _ _ iμ20
def vX12_readExpression_25 (re : Int32 → km_S → (km_S → Prop) → Prop) (k30 : Int32 → Int32 → km_S → Prop) (Q : km_S → Prop) (l1 : Int32) (μ : km_S) : Prop := k30 l1 1 μ
set_option maxRecDepth 100000 in
set_option maxHeartbeats 4000000 in
theorem jcX12_readExpression_25 {re re' : Int32 → km_S → (km_S → Prop) → Prop} (hre : ∀ {P P' P'' : km_S → Prop}, (∀ y0, P y0 → P' y0 → P'' y0) → ∀ (x0 : Int32) (x1 : km_S), re x0 x1 P → re' x0 x1 P' → re x0 x1 P'') {k30 k30' k30'' : Int32 → Int32 → km_S → Prop} (hk30 : ∀ y0 y1 y2, k30 y0 y1 y2 → k30' y0 y1 y2 → k30'' y0 y1 y2) {Q Q' Q'' : km_S → Prop} (hQ : ∀ y0, Q y0 → Q' y0 → Q'' y0) : ∀ (l1 : Int32) (μ : km_S), wX12_readExpression_25 re k30 Q l1 μ → vX12_readExpression_25 re' k30' Q' l1 μ → wX12_readExpression_25 re k30'' Q'' l1 μ := by
  intro l1 μ h v
  unfold wX12_readExpression_25 at h
  unfold vX12_readExpression_25 at v
  unfold wX12_readExpression_25
  exact hk30 _ _ _ h v
set_option maxRecDepth 100000 in
set_option maxHeartbeats 4000000 in
theorem jaX12_readExpression_25 {re re' : Int32 → km_S → (km_S → Prop) → Prop} (hre : ∀ {P P' : km_S → Prop}, (∀ y0, P y0 → P' y0) → ∀ (x0 : Int32) (x1 : km_S), re x0 x1 P → re' x0 x1 P') {k30 k30' : Int32 → Int32 → km_S → Prop} (hk30 : ∀ y0 y1 y2, k30 y0 y1 y2 → k30' y0 y1 y2) {Q Q' : km_S → Prop} (hQ : ∀ y0, Q y0 → Q' y0) : ∀ (l1 : Int32) (μ : km_S), wX12_readExpression_25 re k30 Q l1 μ → vX12_readExpression_25 re' k30' Q' l1 μ := by
  intro l1 μ h
  unfold wX12_readExpression_25 at h
  unfold vX12_readExpression_25
  exact hk30 _ _ _ h
set_option maxRecDepth 100000 in
set_option maxHeartbeats 4000000 in
theorem jfX12_readExpression_25 {I : km_S → Prop} (W : gw_ I [56, 59, 60, 62, 63, 64, 65, 66, 67]) {re : Int32 → km_S → (km_S → Prop) → Prop} (hre : ∀ {P : km_S → Prop}, (∀ y0, I y0 → P y0) → ∀ (x0 : Int32) (x1 : km_S), I x1 → re x0 x1 P) {k30 : Int32 → Int32 → km_S → Prop} (hk30 : ∀ y0 y1 y2, I y2 → k30 y0 y1 y2) {Q : km_S → Prop} (hQ : ∀ y0, I y0 → Q y0) : ∀ (l1 : Int32) (μ : km_S), I μ → vX12_readExpression_25 re k30 Q l1 μ := by
  intro l1 μ i
  unfold vX12_readExpression_25
  exact hk30 _ _ _ i
def vX12_readExpression_111 (re : Int32 → km_S → (km_S → Prop) → Prop) (k67 : Int32 → km_S → Prop) (Q : km_S → Prop) (l1 : Int32) (s0 : Int32) (μ : km_S) : Prop := vX12_step μ (fun μ1 => vX12_readTest re l1 μ1 (fun μ2 => vX12_emit s0 μ2 (fun μ3 => k67 l1 μ3)))
set_option maxRecDepth 100000 in
set_option maxHeartbeats 4000000 in
theorem jcX12_readExpression_111 {re re' : Int32 → km_S → (km_S → Prop) → Prop} (hre : ∀ {P P' P'' : km_S → Prop}, (∀ y0, P y0 → P' y0 → P'' y0) → ∀ (x0 : Int32) (x1 : km_S), re x0 x1 P → re' x0 x1 P' → re x0 x1 P'') {k67 k67' k67'' : Int32 → km_S → Prop} (hk67 : ∀ y0 y1, k67 y0 y1 → k67' y0 y1 → k67'' y0 y1) {Q Q' Q'' : km_S → Prop} (hQ : ∀ y0, Q y0 → Q' y0 → Q'' y0) : ∀ (l1 : Int32) (s0 : Int32) (μ : km_S), wX12_readExpression_111 re k67 Q l1 s0 μ → vX12_readExpression_111 re' k67' Q' l1 s0 μ → wX12_readExpression_111 re k67'' Q'' l1 s0 μ := by
  intro l1 s0 μ h v
  unfold wX12_readExpression_111 at h
  unfold vX12_readExpression_111 at v
  unfold wX12_readExpression_111
  refine jcX12_step ?_ _ h v
  intro μ1 h v
  refine jcX12_readTest hre ?_ _ _ h v
  intro μ2 h v
  refine jcX12_emit ?_ _ _ h v
  intro μ3 h v
  exact hk67 _ _ h v
set_option maxRecDepth 100000 in
set_option maxHeartbeats 4000000 in
theorem jaX12_readExpression_111 {re re' : Int32 → km_S → (km_S → Prop) → Prop} (hre : ∀ {P P' : km_S → Prop}, (∀ y0, P y0 → P' y0) → ∀ (x0 : Int32) (x1 : km_S), re x0 x1 P → re' x0 x1 P') {k67 k67' : Int32 → km_S → Prop} (hk67 : ∀ y0 y1, k67 y0 y1 → k67' y0 y1) {Q Q' : km_S → Prop} (hQ : ∀ y0, Q y0 → Q' y0) : ∀ (l1 : Int32) (s0 : Int32) (μ : km_S), wX12_readExpression_111 re k67 Q l1 s0 μ → vX12_readExpression_111 re' k67' Q' l1 s0 μ := by
  intro l1 s0 μ h
  unfold wX12_readExpression_111 at h
  unfold vX12_readExpression_111
  refine jaX12_step ?_ _ h
  intro μ1 h
  refine jaX12_readTest hre ?_ _ _ h
  intro μ2 h
  refine jaX12_emit ?_ _ _ h
  intro μ3 h
  exact hk67 _ _ h
set_option maxRecDepth 100000 in
set_option maxHeartbeats 4000000 in
theorem jfX12_readExpression_111 {I : km_S → Prop} (W : gw_ I [56, 59, 60, 62, 63, 64, 65, 66, 67]) {re : Int32 → km_S → (km_S → Prop) → Prop} (hre : ∀ {P : km_S → Prop}, (∀ y0, I y0 → P y0) → ∀ (x0 : Int32) (x1 : km_S), I x1 → re x0 x1 P) {k67 : Int32 → km_S → Prop} (hk67 : ∀ y0 y1, I y1 → k67 y0 y1) {Q : km_S → Prop} (hQ : ∀ y0, I y0 → Q y0) : ∀ (l1 : Int32) (s0 : Int32) (μ : km_S), I μ → vX12_readExpression_111 re k67 Q l1 s0 μ := by
  intro l1 s0 μ i
  unfold vX12_readExpression_111
  refine jfX12_step (I := I) (gw_sub W (by decide)) ?_ _ i
  intro μ1 iμ1
  refine jfX12_readTest (I := I) (gw_sub W (by decide)) hre ?_ _ _ iμ1
  intro μ2 iμ2
  refine jfX12_emit (I := I) (gw_sub W (by decide)) ?_ _ _ iμ2
  intro μ3 iμ3
  exact hk67 _ _ iμ3
def vX12_readExpression_94 (re : Int32 → km_S → (km_S → Prop) → Prop) (k67 : Int32 → km_S → Prop) (Q : km_S → Prop) (l1 : Int32) (μ : km_S) : Prop := vX12_isWord 9 μ (fun r5 μ4 => ((r5 = 0 → vX12_readExpression_111 re k67 Q l1 8 μ4) ∧ (¬ (r5 = 0) → vX12_readExpression_111 re k67 Q l1 7 μ4)))
set_option maxRecDepth 100000 in
set_option maxHeartbeats 4000000 in
theorem jcX12_readExpression_94 {re re' : Int32 → km_S → (km_S → Prop) → Prop} (hre : ∀ {P P' P'' : km_S → Prop}, (∀ y0, P y0 → P' y0 → P'' y0) → ∀ (x0 : Int32) (x1 : km_S), re x0 x1 P → re' x0 x1 P' → re x0 x1 P'') {k67 k67' k67'' : Int32 → km_S → Prop} (hk67 : ∀ y0 y1, k67 y0 y1 → k67' y0 y1 → k67'' y0 y1) {Q Q' Q'' : km_S → Prop} (hQ : ∀ y0, Q y0 → Q' y0 → Q'' y0) : ∀ (l1 : Int32) (μ : km_S), wX12_readExpression_94 re k67 Q l1 μ → vX12_readExpression_94 re' k67' Q' l1 μ → wX12_readExpression_94 re k67'' Q'' l1 μ := by
  intro l1 μ h v
  unfold wX12_readExpression_94 at h
  unfold vX12_readExpression_94 at v
  unfold wX12_readExpression_94
  refine jcX12_isWord ?_ _ _ h v
  intro r5 μ4 h v
  refine ⟨?_, ?_⟩
  · have h := h.1
    have v := v.1
    intro e1
    have h := h e1
    have v := v e1
    exact jcX12_readExpression_111 hre hk67 hQ _ _ _ h v
  · have h := h.2
    have v := v.2
    intro e2
    have h := h e2
    have v := v e2
    exact jcX12_readExpression_111 hre hk67 hQ _ _ _ h v
set_option maxRecDepth 100000 in
set_option maxHeartbeats 4000000 in
theorem jaX12_readExpression_94 {re re' : Int32 → km_S → (km_S → Prop) → Prop} (hre : ∀ {P P' : km_S → Prop}, (∀ y0, P y0 → P' y0) → ∀ (x0 : Int32) (x1 : km_S), re x0 x1 P → re' x0 x1 P') {k67 k67' : Int32 → km_S → Prop} (hk67 : ∀ y0 y1, k67 y0 y1 → k67' y0 y1) {Q Q' : km_S → Prop} (hQ : ∀ y0, Q y0 → Q' y0) : ∀ (l1 : Int32) (μ : km_S), wX12_readExpression_94 re k67 Q l1 μ → vX12_readExpression_94 re' k67' Q' l1 μ := by
  intro l1 μ h
  unfold wX12_readExpression_94 at h
  unfold vX12_readExpression_94
  refine jaX12_isWord ?_ _ _ h
  intro r5 μ4 h
  refine ⟨?_, ?_⟩
  · have h := h.1
    intro e1
    have h := h e1
    exact jaX12_readExpression_111 hre hk67 hQ _ _ _ h
  · have h := h.2
    intro e2
    have h := h e2
    exact jaX12_readExpression_111 hre hk67 hQ _ _ _ h
set_option maxRecDepth 100000 in
set_option maxHeartbeats 4000000 in
theorem jfX12_readExpression_94 {I : km_S → Prop} (W : gw_ I [56, 59, 60, 62, 63, 64, 65, 66, 67]) {re : Int32 → km_S → (km_S → Prop) → Prop} (hre : ∀ {P : km_S → Prop}, (∀ y0, I y0 → P y0) → ∀ (x0 : Int32) (x1 : km_S), I x1 → re x0 x1 P) {k67 : Int32 → km_S → Prop} (hk67 : ∀ y0 y1, I y1 → k67 y0 y1) {Q : km_S → Prop} (hQ : ∀ y0, I y0 → Q y0) : ∀ (l1 : Int32) (μ : km_S), I μ → vX12_readExpression_94 re k67 Q l1 μ := by
  intro l1 μ i
  unfold vX12_readExpression_94
  refine jfX12_isWord (I := I) (gw_sub W (by decide)) ?_ _ _ i
  intro r5 μ4 iμ4
  refine ⟨?_, ?_⟩
  · intro e1
    exact jfX12_readExpression_111 (I := I) (gw_sub W (by decide)) hre hk67 hQ _ _ _ iμ4
  · intro e2
    exact jfX12_readExpression_111 (I := I) (gw_sub W (by decide)) hre hk67 hQ _ _ _ iμ4
def vX12_readExpression_67 (re : Int32 → km_S → (km_S → Prop) → Prop) (Q : km_S → Prop) : Nat → Int32 → km_S → Prop
  | 0, _, _ => True
  | n + 1, l1, μ => ((¬ (km_i μ 66) = 0 → Q μ) ∧ ((km_i μ 66) = 0 → vX12_isWord 9 μ (fun r9 μ8 => ((¬ r9 = 0 → vX12_readExpression_94 re (vX12_readExpression_67 re Q n) Q l1 μ8) ∧ (r9 = 0 → vX12_isWord 10 μ8 (fun r12 μ11 => ((r12 = 0 → Q μ11) ∧ (¬ (r12 = 0) → vX12_readExpression_94 re (vX12_readExpression_67 re Q n) Q l1 μ11))))))))
set_option maxRecDepth 100000 in
set_option maxHeartbeats 4000000 in
theorem jcX12_readExpression_67 {re re' : Int32 → km_S → (km_S → Prop) → Prop} (hre : ∀ {P P' P'' : km_S → Prop}, (∀ y0, P y0 → P' y0 → P'' y0) → ∀ (x0 : Int32) (x1 : km_S), re x0 x1 P → re' x0 x1 P' → re x0 x1 P'') {Q Q' Q'' : km_S → Prop} (hQ : ∀ y0, Q y0 → Q' y0 → Q'' y0) : ∀ (n : Nat) (l1 : Int32) (μ : km_S), wX12_readExpression_67 re Q n l1 μ → vX12_readExpression_67 re' Q' n l1 μ → wX12_readExpression_67 re Q'' n l1 μ := by
  intro n
  induction n with
  | zero => intro l1 μ h; exact h.elim
  | succ n ih =>
    intro l1 μ h v
    unfold wX12_readExpression_67 at h
    unfold vX12_readExpression_67 at v
    unfold wX12_readExpression_67
    refine ⟨?_, ?_⟩
    · have h := h.1
      have v := v.1
      intro e1
      have h := h e1
      have v := v e1
      exact hQ _ h v
    · have h := h.2
      have v := v.2
      intro e2
      have h := h e2
      have v := v e2
      refine jcX12_isWord ?_ _ _ h v
      intro r9 μ8 h v
      refine ⟨?_, ?_⟩
      · have h := h.1
        have v := v.1
        intro e3
        have h := h e3
        have v := v e3
        exact jcX12_readExpression_94 hre (k67 := wX12_readExpression_67 re Q n) (k67' := vX12_readExpression_67 re' Q' n) (k67'' := wX12_readExpression_67 re Q'' n) (fun _ _ h v => ih _ _ h v) hQ _ _ h v
      · have h := h.2
        have v := v.2
        intro e4
        have h := h e4
        have v := v e4
        refine jcX12_isWord ?_ _ _ h v
        intro r12 μ11 h v
        refine ⟨?_, ?_⟩
        · have h := h.1
          have v := v.1
          intro e5
          have h := h e5
          have v := v e5
          exact hQ _ h v
        · have h := h.2
          have v := v.2
          intro e6
          have h := h e6
          have v := v e6
          exact jcX12_readExpression_94 hre (k67 := wX12_readExpression_67 re Q n) (k67' := vX12_readExpression_67 re' Q' n) (k67'' := wX12_readExpression_67 re Q'' n) (fun _ _ h v => ih _ _ h v) hQ _ _ h v
set_option maxRecDepth 100000 in
set_option maxHeartbeats 4000000 in
theorem jaX12_readExpression_67 {re re' : Int32 → km_S → (km_S → Prop) → Prop} (hre : ∀ {P P' : km_S → Prop}, (∀ y0, P y0 → P' y0) → ∀ (x0 : Int32) (x1 : km_S), re x0 x1 P → re' x0 x1 P') {Q Q' : km_S → Prop} (hQ : ∀ y0, Q y0 → Q' y0) : ∀ (n m : Nat) (l1 : Int32) (μ : km_S), wX12_readExpression_67 re Q n l1 μ → vX12_readExpression_67 re' Q' m l1 μ := by
  intro n
  induction n with
  | zero => intro m l1 μ h; exact h.elim
  | succ n ih =>
    intro m l1 μ h
    cases m with
    | zero => exact trivial
    | succ m =>
      unfold wX12_readExpression_67 at h
      unfold vX12_readExpression_67
      refine ⟨?_, ?_⟩
      · have h := h.1
        intro e1
        have h := h e1
        exact hQ _ h
      · have h := h.2
        intro e2
        have h := h e2
        refine jaX12_isWord ?_ _ _ h
        intro r9 μ8 h
        refine ⟨?_, ?_⟩
        · have h := h.1
          intro e3
          have h := h e3
          exact jaX12_readExpression_94 hre (k67 := wX12_readExpression_67 re Q n) (k67' := vX12_readExpression_67 re' Q' m) (fun _ _ h => ih m _ _ h) hQ _ _ h
        · have h := h.2
          intro e4
          have h := h e4
          refine jaX12_isWord ?_ _ _ h
          intro r12 μ11 h
          refine ⟨?_, ?_⟩
          · have h := h.1
            intro e5
            have h := h e5
            exact hQ _ h
          · have h := h.2
            intro e6
            have h := h e6
            exact jaX12_readExpression_94 hre (k67 := wX12_readExpression_67 re Q n) (k67' := vX12_readExpression_67 re' Q' m) (fun _ _ h => ih m _ _ h) hQ _ _ h
set_option maxRecDepth 100000 in
set_option maxHeartbeats 4000000 in
theorem jfX12_readExpression_67 {I : km_S → Prop} (W : gw_ I [56, 59, 60, 62, 63, 64, 65, 66, 67]) {re : Int32 → km_S → (km_S → Prop) → Prop} (hre : ∀ {P : km_S → Prop}, (∀ y0, I y0 → P y0) → ∀ (x0 : Int32) (x1 : km_S), I x1 → re x0 x1 P) {Q : km_S → Prop} (hQ : ∀ y0, I y0 → Q y0) : ∀ (n : Nat) (l1 : Int32) (μ : km_S), I μ → vX12_readExpression_67 re Q n l1 μ := by
  intro n
  induction n with
  | zero => intro l1 μ i; exact trivial
  | succ n ih =>
    intro l1 μ i
    unfold vX12_readExpression_67
    refine ⟨?_, ?_⟩
    · intro e1
      exact hQ _ i
    · intro e2
      refine jfX12_isWord (I := I) (gw_sub W (by decide)) ?_ _ _ i
      intro r9 μ8 iμ8
      refine ⟨?_, ?_⟩
      · intro e3
        exact jfX12_readExpression_94 (I := I) (gw_sub W (by decide)) hre (k67 := vX12_readExpression_67 re Q n) (fun _ _ i => ih _ _ i) hQ _ _ iμ8
      · intro e4
        refine jfX12_isWord (I := I) (gw_sub W (by decide)) ?_ _ _ iμ8
        intro r12 μ11 iμ11
        refine ⟨?_, ?_⟩
        · intro e5
          exact hQ _ iμ11
        · intro e6
          exact jfX12_readExpression_94 (I := I) (gw_sub W (by decide)) hre (k67 := vX12_readExpression_67 re Q n) (fun _ _ i => ih _ _ i) hQ _ _ iμ11
def vX12_readExpression_54 (re : Int32 → km_S → (km_S → Prop) → Prop) (Q : km_S → Prop) (l1 : Int32) (μ : km_S) : Prop := (((km_i μ 66) = 0 → vX12_readTest re l1 μ (fun μ15 => ∀ j, vX12_readExpression_67 re Q j l1 μ15)) ∧ (¬ ((km_i μ 66) = 0) → Q μ))
set_option maxRecDepth 100000 in
set_option maxHeartbeats 4000000 in
theorem jcX12_readExpression_54 {re re' : Int32 → km_S → (km_S → Prop) → Prop} (hre : ∀ {P P' P'' : km_S → Prop}, (∀ y0, P y0 → P' y0 → P'' y0) → ∀ (x0 : Int32) (x1 : km_S), re x0 x1 P → re' x0 x1 P' → re x0 x1 P'') {Q Q' Q'' : km_S → Prop} (hQ : ∀ y0, Q y0 → Q' y0 → Q'' y0) : ∀ (l1 : Int32) (μ : km_S), wX12_readExpression_54 re Q l1 μ → vX12_readExpression_54 re' Q' l1 μ → wX12_readExpression_54 re Q'' l1 μ := by
  intro l1 μ h v
  unfold wX12_readExpression_54 at h
  unfold vX12_readExpression_54 at v
  unfold wX12_readExpression_54
  refine ⟨?_, ?_⟩
  · have h := h.1
    have v := v.1
    intro e1
    have h := h e1
    have v := v e1
    refine jcX12_readTest hre ?_ _ _ h v
    intro μ15 h v
    obtain ⟨j, h⟩ := h
    refine ⟨j, ?_⟩
    have v := v j
    exact jcX12_readExpression_67 hre hQ _ _ _ h v
  · have h := h.2
    have v := v.2
    intro e2
    have h := h e2
    have v := v e2
    exact hQ _ h v
set_option maxRecDepth 100000 in
set_option maxHeartbeats 4000000 in
theorem jaX12_readExpression_54 {re re' : Int32 → km_S → (km_S → Prop) → Prop} (hre : ∀ {P P' : km_S → Prop}, (∀ y0, P y0 → P' y0) → ∀ (x0 : Int32) (x1 : km_S), re x0 x1 P → re' x0 x1 P') {Q Q' : km_S → Prop} (hQ : ∀ y0, Q y0 → Q' y0) : ∀ (l1 : Int32) (μ : km_S), wX12_readExpression_54 re Q l1 μ → vX12_readExpression_54 re' Q' l1 μ := by
  intro l1 μ h
  unfold wX12_readExpression_54 at h
  unfold vX12_readExpression_54
  refine ⟨?_, ?_⟩
  · have h := h.1
    intro e1
    have h := h e1
    refine jaX12_readTest hre ?_ _ _ h
    intro μ15 h
    obtain ⟨j, h⟩ := h
    intro j9
    exact jaX12_readExpression_67 hre hQ _ j9 _ _ h
  · have h := h.2
    intro e2
    have h := h e2
    exact hQ _ h
set_option maxRecDepth 100000 in
set_option maxHeartbeats 4000000 in
theorem jfX12_readExpression_54 {I : km_S → Prop} (W : gw_ I [56, 59, 60, 62, 63, 64, 65, 66, 67]) {re : Int32 → km_S → (km_S → Prop) → Prop} (hre : ∀ {P : km_S → Prop}, (∀ y0, I y0 → P y0) → ∀ (x0 : Int32) (x1 : km_S), I x1 → re x0 x1 P) {Q : km_S → Prop} (hQ : ∀ y0, I y0 → Q y0) : ∀ (l1 : Int32) (μ : km_S), I μ → vX12_readExpression_54 re Q l1 μ := by
  intro l1 μ i
  unfold vX12_readExpression_54
  refine ⟨?_, ?_⟩
  · intro e1
    refine jfX12_readTest (I := I) (gw_sub W (by decide)) hre ?_ _ _ i
    intro μ15 iμ15
    intro j
    exact jfX12_readExpression_67 (I := I) (gw_sub W (by decide)) hre hQ _ _ _ iμ15
  · intro e2
    exact hQ _ i
def vX12_readExpression_30 (re : Int32 → km_S → (km_S → Prop) → Prop) (Q : km_S → Prop) (l1 : Int32) (s0 : Int32) (μ : km_S) : Prop := ((¬ s0 = 0 → ((¬ l1 = 8 → vX12_readExpression_54 re Q l1 μ) ∧ (l1 = 8 → vX12_wrong 2 μ (fun μ19 => vX12_readExpression_54 re Q l1 μ19)))) ∧ (s0 = 0 → vX12_wrong 1 μ (fun μ20 => vX12_readExpression_54 re Q l1 μ20)))
set_option maxRecDepth 100000 in
set_option maxHeartbeats 4000000 in
theorem jcX12_readExpression_30 {re re' : Int32 → km_S → (km_S → Prop) → Prop} (hre : ∀ {P P' P'' : km_S → Prop}, (∀ y0, P y0 → P' y0 → P'' y0) → ∀ (x0 : Int32) (x1 : km_S), re x0 x1 P → re' x0 x1 P' → re x0 x1 P'') {Q Q' Q'' : km_S → Prop} (hQ : ∀ y0, Q y0 → Q' y0 → Q'' y0) : ∀ (l1 : Int32) (s0 : Int32) (μ : km_S), wX12_readExpression_30 re Q l1 s0 μ → vX12_readExpression_30 re' Q' l1 s0 μ → wX12_readExpression_30 re Q'' l1 s0 μ := by
  intro l1 s0 μ h v
  unfold wX12_readExpression_30 at h
  unfold vX12_readExpression_30 at v
  unfold wX12_readExpression_30
  refine ⟨?_, ?_⟩
  · have h := h.1
    have v := v.1
    intro e1
    have h := h e1
    have v := v e1
    refine ⟨?_, ?_⟩
    · have h := h.1
      have v := v.1
      intro e2
      have h := h e2
      have v := v e2
      exact jcX12_readExpression_54 hre hQ _ _ h v
    · have h := h.2
      have v := v.2
      intro e3
      have h := h e3
      have v := v e3
      refine jcX12_wrong ?_ _ _ h v
      intro μ19 h v
      exact jcX12_readExpression_54 hre hQ _ _ h v
  · have h := h.2
    have v := v.2
    intro e4
    have h := h e4
    have v := v e4
    refine jcX12_wrong ?_ _ _ h v
    intro μ20 h v
    exact jcX12_readExpression_54 hre hQ _ _ h v
set_option maxRecDepth 100000 in
set_option maxHeartbeats 4000000 in
theorem jaX12_readExpression_30 {re re' : Int32 → km_S → (km_S → Prop) → Prop} (hre : ∀ {P P' : km_S → Prop}, (∀ y0, P y0 → P' y0) → ∀ (x0 : Int32) (x1 : km_S), re x0 x1 P → re' x0 x1 P') {Q Q' : km_S → Prop} (hQ : ∀ y0, Q y0 → Q' y0) : ∀ (l1 : Int32) (s0 : Int32) (μ : km_S), wX12_readExpression_30 re Q l1 s0 μ → vX12_readExpression_30 re' Q' l1 s0 μ := by
  intro l1 s0 μ h
  unfold wX12_readExpression_30 at h
  unfold vX12_readExpression_30
  refine ⟨?_, ?_⟩
  · have h := h.1
    intro e1
    have h := h e1
    refine ⟨?_, ?_⟩
    · have h := h.1
      intro e2
      have h := h e2
      exact jaX12_readExpression_54 hre hQ _ _ h
    · have h := h.2
      intro e3
      have h := h e3
      refine jaX12_wrong ?_ _ _ h
      intro μ19 h
      exact jaX12_readExpression_54 hre hQ _ _ h
  · have h := h.2
    intro e4
    have h := h e4
    refine jaX12_wrong ?_ _ _ h
    intro μ20 h
    exact jaX12_readExpression_54 hre hQ _ _ h
set_option maxRecDepth 100000 in
set_option maxHeartbeats 4000000 in
theorem jfX12_readExpression_30 {I : km_S → Prop} (W : gw_ I [56, 59, 60, 62, 63, 64, 65, 66, 67]) {re : Int32 → km_S → (km_S → Prop) → Prop} (hre : ∀ {P : km_S → Prop}, (∀ y0, I y0 → P y0) → ∀ (x0 : Int32) (x1 : km_S), I x1 → re x0 x1 P) {Q : km_S → Prop} (hQ : ∀ y0, I y0 → Q y0) : ∀ (l1 : Int32) (s0 : Int32) (μ : km_S), I μ → vX12_readExpression_30 re Q l1 s0 μ := by
  intro l1 s0 μ i
  unfold vX12_readExpression_30
  refine ⟨?_, ?_⟩
  · intro e1
    refine ⟨?_, ?_⟩
    · intro e2
      exact jfX12_readExpression_54 (I := I) (gw_sub W (by decide)) hre hQ _ _ i
    · intro e3
      refine jfX12_wrong (I := I) (gw_sub W (by decide)) ?_ _ _ i
      intro μ19 iμ19
      exact jfX12_readExpression_54 (I := I) (gw_sub W (by decide)) hre hQ _ _ iμ19
  · intro e4
    refine jfX12_wrong (I := I) (gw_sub W (by decide)) ?_ _ _ i
    intro μ20 iμ20
    exact jfX12_readExpression_54 (I := I) (gw_sub W (by decide)) hre hQ _ _ iμ20
def vX12_readExpression_b (re : Int32 → km_S → (km_S → Prop) → Prop) (l1 : Int32) (μ : km_S) (Q : km_S → Prop) : Prop := (((km_i μ 62) = 1 → vX12_readExpression_25 re (vX12_readExpression_30 re Q) Q l1 μ) ∧ (¬ ((km_i μ 62) = 1) → (((km_i μ 62) = 2 → vX12_readExpression_25 re (vX12_readExpression_30 re Q) Q l1 μ) ∧ (¬ ((km_i μ 62) = 2) → vX12_isSign 40 μ (fun r24 μ23 => ((r24 = 0 → vX12_readExpression_30 re Q l1 0 μ23) ∧ (¬ (r24 = 0) → vX12_readExpression_25 re (vX12_readExpression_30 re Q) Q l1 μ23)))))))
set_option maxRecDepth 100000 in
set_option maxHeartbeats 4000000 in
theorem jcX12_readExpression_b {re re' : Int32 → km_S → (km_S → Prop) → Prop} (hre : ∀ {P P' P'' : km_S → Prop}, (∀ y0, P y0 → P' y0 → P'' y0) → ∀ (x0 : Int32) (x1 : km_S), re x0 x1 P → re' x0 x1 P' → re x0 x1 P'') {Q Q' Q'' : km_S → Prop} (hQ : ∀ y0, Q y0 → Q' y0 → Q'' y0) : ∀ (l1 : Int32) (μ : km_S), wX12_readExpression_b re l1 μ Q → vX12_readExpression_b re' l1 μ Q' → wX12_readExpression_b re l1 μ Q'' := by
  intro l1 μ h v
  unfold wX12_readExpression_b at h
  unfold vX12_readExpression_b at v
  unfold wX12_readExpression_b
  refine ⟨?_, ?_⟩
  · have h := h.1
    have v := v.1
    intro e1
    have h := h e1
    have v := v e1
    exact jcX12_readExpression_25 hre (k30 := wX12_readExpression_30 re Q) (k30' := vX12_readExpression_30 re' Q') (k30'' := wX12_readExpression_30 re Q'') (fun _ _ _ h v => jcX12_readExpression_30 hre hQ _ _ _ h v) hQ _ _ h v
  · have h := h.2
    have v := v.2
    intro e2
    have h := h e2
    have v := v e2
    refine ⟨?_, ?_⟩
    · have h := h.1
      have v := v.1
      intro e3
      have h := h e3
      have v := v e3
      exact jcX12_readExpression_25 hre (k30 := wX12_readExpression_30 re Q) (k30' := vX12_readExpression_30 re' Q') (k30'' := wX12_readExpression_30 re Q'') (fun _ _ _ h v => jcX12_readExpression_30 hre hQ _ _ _ h v) hQ _ _ h v
    · have h := h.2
      have v := v.2
      intro e4
      have h := h e4
      have v := v e4
      refine jcX12_isSign ?_ _ _ h v
      intro r24 μ23 h v
      refine ⟨?_, ?_⟩
      · have h := h.1
        have v := v.1
        intro e5
        have h := h e5
        have v := v e5
        exact jcX12_readExpression_30 hre hQ _ _ _ h v
      · have h := h.2
        have v := v.2
        intro e6
        have h := h e6
        have v := v e6
        exact jcX12_readExpression_25 hre (k30 := wX12_readExpression_30 re Q) (k30' := vX12_readExpression_30 re' Q') (k30'' := wX12_readExpression_30 re Q'') (fun _ _ _ h v => jcX12_readExpression_30 hre hQ _ _ _ h v) hQ _ _ h v
set_option maxRecDepth 100000 in
set_option maxHeartbeats 4000000 in
theorem jaX12_readExpression_b {re re' : Int32 → km_S → (km_S → Prop) → Prop} (hre : ∀ {P P' : km_S → Prop}, (∀ y0, P y0 → P' y0) → ∀ (x0 : Int32) (x1 : km_S), re x0 x1 P → re' x0 x1 P') {Q Q' : km_S → Prop} (hQ : ∀ y0, Q y0 → Q' y0) : ∀ (l1 : Int32) (μ : km_S), wX12_readExpression_b re l1 μ Q → vX12_readExpression_b re' l1 μ Q' := by
  intro l1 μ h
  unfold wX12_readExpression_b at h
  unfold vX12_readExpression_b
  refine ⟨?_, ?_⟩
  · have h := h.1
    intro e1
    have h := h e1
    exact jaX12_readExpression_25 hre (k30 := wX12_readExpression_30 re Q) (k30' := vX12_readExpression_30 re' Q') (fun _ _ _ h => jaX12_readExpression_30 hre hQ _ _ _ h) hQ _ _ h
  · have h := h.2
    intro e2
    have h := h e2
    refine ⟨?_, ?_⟩
    · have h := h.1
      intro e3
      have h := h e3
      exact jaX12_readExpression_25 hre (k30 := wX12_readExpression_30 re Q) (k30' := vX12_readExpression_30 re' Q') (fun _ _ _ h => jaX12_readExpression_30 hre hQ _ _ _ h) hQ _ _ h
    · have h := h.2
      intro e4
      have h := h e4
      refine jaX12_isSign ?_ _ _ h
      intro r24 μ23 h
      refine ⟨?_, ?_⟩
      · have h := h.1
        intro e5
        have h := h e5
        exact jaX12_readExpression_30 hre hQ _ _ _ h
      · have h := h.2
        intro e6
        have h := h e6
        exact jaX12_readExpression_25 hre (k30 := wX12_readExpression_30 re Q) (k30' := vX12_readExpression_30 re' Q') (fun _ _ _ h => jaX12_readExpression_30 hre hQ _ _ _ h) hQ _ _ h
set_option maxRecDepth 100000 in
set_option maxHeartbeats 4000000 in
theorem jfX12_readExpression_b {I : km_S → Prop} (W : gw_ I [56, 59, 60, 62, 63, 64, 65, 66, 67]) {re : Int32 → km_S → (km_S → Prop) → Prop} (hre : ∀ {P : km_S → Prop}, (∀ y0, I y0 → P y0) → ∀ (x0 : Int32) (x1 : km_S), I x1 → re x0 x1 P) {Q : km_S → Prop} (hQ : ∀ y0, I y0 → Q y0) : ∀ (l1 : Int32) (μ : km_S), I μ → vX12_readExpression_b re l1 μ Q := by
  intro l1 μ i
  unfold vX12_readExpression_b
  refine ⟨?_, ?_⟩
  · intro e1
    exact jfX12_readExpression_25 (I := I) (gw_sub W (by decide)) hre (k30 := vX12_readExpression_30 re Q) (fun _ _ _ i => jfX12_readExpression_30 (I := I) (gw_sub W (by decide)) hre hQ _ _ _ i) hQ _ _ i
  · intro e2
    refine ⟨?_, ?_⟩
    · intro e3
      exact jfX12_readExpression_25 (I := I) (gw_sub W (by decide)) hre (k30 := vX12_readExpression_30 re Q) (fun _ _ _ i => jfX12_readExpression_30 (I := I) (gw_sub W (by decide)) hre hQ _ _ _ i) hQ _ _ i
    · intro e4
      refine jfX12_isSign (I := I) (gw_sub W (by decide)) ?_ _ _ i
      intro r24 μ23 iμ23
      refine ⟨?_, ?_⟩
      · intro e5
        exact jfX12_readExpression_30 (I := I) (gw_sub W (by decide)) hre hQ _ _ _ iμ23
      · intro e6
        exact jfX12_readExpression_25 (I := I) (gw_sub W (by decide)) hre (k30 := vX12_readExpression_30 re Q) (fun _ _ _ i => jfX12_readExpression_30 (I := I) (gw_sub W (by decide)) hre hQ _ _ _ i) hQ _ _ iμ23
def vX12_readExpression : Nat → Int32 → km_S → (km_S → Prop) → Prop
  | 0, _, _, _ => True
  | D + 1, a, μ, Q => vX12_readExpression_b (vX12_readExpression D) a μ Q
theorem jcX12_readExpression : ∀ {P P' P'' : km_S → Prop}, (∀ u, P u → P' u → P'' u) → ∀ (D : Nat) (a : Int32) (μ : km_S), wX12_readExpression D a μ P → vX12_readExpression D a μ P' → wX12_readExpression D a μ P'' := by
  intro P P' P'' hP D
  induction D generalizing P P' P'' with
  | zero => intro a μ h; exact h.elim
  | succ D ih => intro a μ h v; exact jcX12_readExpression_b (re := wX12_readExpression D) (re' := vX12_readExpression D) (fun h9 => ih h9) hP _ _ h v
theorem jaX12_readExpression : ∀ {P P' : km_S → Prop}, (∀ u, P u → P' u) → ∀ (D : Nat) (a : Int32) (μ : km_S), wX12_readExpression D a μ P → vX12_readExpression D a μ P' := by
  intro P P' hP D
  induction D generalizing P P' with
  | zero => intro a μ h; exact h.elim
  | succ D ih => intro a μ h; exact jaX12_readExpression_b (re := wX12_readExpression D) (re' := vX12_readExpression D) (fun h9 => ih h9) hP _ _ h
theorem jfX12_readExpression {I : km_S → Prop} (W : gw_ I [56, 59, 60, 62, 63, 64, 65, 66, 67]) : ∀ {P : km_S → Prop}, (∀ u, I u → P u) → ∀ (D : Nat) (a : Int32) (μ : km_S), I μ → vX12_readExpression D a μ P := by
  intro P hP D
  induction D generalizing P with
  | zero => intro a μ i; exact trivial
  | succ D ih => intro a μ i; exact jfX12_readExpression_b (I := I) (gw_sub W (by decide)) (re := vX12_readExpression D) (fun h9 => ih h9) hP _ _ i
def vX12_readLaw_144 (k6 : Int32 → km_S → Prop) (Q : km_S → Prop) (l1 : Int32) (μ : km_S) : Prop := k6 l1 μ
set_option maxRecDepth 100000 in
set_option maxHeartbeats 4000000 in
theorem jcX12_readLaw_144 {k6 k6' k6'' : Int32 → km_S → Prop} (hk6 : ∀ y0 y1, k6 y0 y1 → k6' y0 y1 → k6'' y0 y1) {Q Q' Q'' : km_S → Prop} (hQ : ∀ y0, Q y0 → Q' y0 → Q'' y0) : ∀ (l1 : Int32) (μ : km_S), wX12_readLaw_144 k6 Q l1 μ → vX12_readLaw_144 k6' Q' l1 μ → wX12_readLaw_144 k6'' Q'' l1 μ := by
  intro l1 μ h v
  unfold wX12_readLaw_144 at h
  unfold vX12_readLaw_144 at v
  unfold wX12_readLaw_144
  exact hk6 _ _ h v
set_option maxRecDepth 100000 in
set_option maxHeartbeats 4000000 in
theorem jaX12_readLaw_144 {k6 k6' : Int32 → km_S → Prop} (hk6 : ∀ y0 y1, k6 y0 y1 → k6' y0 y1) {Q Q' : km_S → Prop} (hQ : ∀ y0, Q y0 → Q' y0) : ∀ (l1 : Int32) (μ : km_S), wX12_readLaw_144 k6 Q l1 μ → vX12_readLaw_144 k6' Q' l1 μ := by
  intro l1 μ h
  unfold wX12_readLaw_144 at h
  unfold vX12_readLaw_144
  exact hk6 _ _ h
set_option maxRecDepth 100000 in
set_option maxHeartbeats 4000000 in
theorem jfX12_readLaw_144 {I : km_S → Prop} (W : gw_ I []) {k6 : Int32 → km_S → Prop} (hk6 : ∀ y0 y1, I y1 → k6 y0 y1) {Q : km_S → Prop} (hQ : ∀ y0, I y0 → Q y0) : ∀ (l1 : Int32) (μ : km_S), I μ → vX12_readLaw_144 k6 Q l1 μ := by
  intro l1 μ i
  unfold vX12_readLaw_144
  exact hk6 _ _ i
end
section
def vX12_readLaw_133 (k6 : Int32 → km_S → Prop) (Q : km_S → Prop) (l1 : Int32) (μ : km_S) : Prop := ((¬ (km_i μ 66) = 0 → vX12_readLaw_144 k6 Q l1 μ) ∧ ((km_i μ 66) = 0 → vX12_step μ (fun μ2 => vX12_readLaw_144 k6 Q l1 μ2)))
set_option maxRecDepth 100000 in
set_option maxHeartbeats 4000000 in
theorem jcX12_readLaw_133 {k6 k6' k6'' : Int32 → km_S → Prop} (hk6 : ∀ y0 y1, k6 y0 y1 → k6' y0 y1 → k6'' y0 y1) {Q Q' Q'' : km_S → Prop} (hQ : ∀ y0, Q y0 → Q' y0 → Q'' y0) : ∀ (l1 : Int32) (μ : km_S), wX12_readLaw_133 k6 Q l1 μ → vX12_readLaw_133 k6' Q' l1 μ → wX12_readLaw_133 k6'' Q'' l1 μ := by
  intro l1 μ h v
  unfold wX12_readLaw_133 at h
  unfold vX12_readLaw_133 at v
  unfold wX12_readLaw_133
  refine ⟨?_, ?_⟩
  · have h := h.1
    have v := v.1
    intro e1
    have h := h e1
    have v := v e1
    exact jcX12_readLaw_144 hk6 hQ _ _ h v
  · have h := h.2
    have v := v.2
    intro e2
    have h := h e2
    have v := v e2
    refine jcX12_step ?_ _ h v
    intro μ2 h v
    exact jcX12_readLaw_144 hk6 hQ _ _ h v
set_option maxRecDepth 100000 in
set_option maxHeartbeats 4000000 in
theorem jaX12_readLaw_133 {k6 k6' : Int32 → km_S → Prop} (hk6 : ∀ y0 y1, k6 y0 y1 → k6' y0 y1) {Q Q' : km_S → Prop} (hQ : ∀ y0, Q y0 → Q' y0) : ∀ (l1 : Int32) (μ : km_S), wX12_readLaw_133 k6 Q l1 μ → vX12_readLaw_133 k6' Q' l1 μ := by
  intro l1 μ h
  unfold wX12_readLaw_133 at h
  unfold vX12_readLaw_133
  refine ⟨?_, ?_⟩
  · have h := h.1
    intro e1
    have h := h e1
    exact jaX12_readLaw_144 hk6 hQ _ _ h
  · have h := h.2
    intro e2
    have h := h e2
    refine jaX12_step ?_ _ h
    intro μ2 h
    exact jaX12_readLaw_144 hk6 hQ _ _ h
set_option maxRecDepth 100000 in
set_option maxHeartbeats 4000000 in
theorem jfX12_readLaw_133 {I : km_S → Prop} (W : gw_ I [60, 62, 63, 64, 65]) {k6 : Int32 → km_S → Prop} (hk6 : ∀ y0 y1, I y1 → k6 y0 y1) {Q : km_S → Prop} (hQ : ∀ y0, I y0 → Q y0) : ∀ (l1 : Int32) (μ : km_S), I μ → vX12_readLaw_133 k6 Q l1 μ := by
  intro l1 μ i
  unfold vX12_readLaw_133
  refine ⟨?_, ?_⟩
  · intro e1
    exact jfX12_readLaw_144 (I := I) (gw_sub W (by decide)) hk6 hQ _ _ i
  · intro e2
    refine jfX12_step (I := I) (gw_sub W (by decide)) ?_ _ i
    intro μ2 iμ2
    exact jfX12_readLaw_144 (I := I) (gw_sub W (by decide)) hk6 hQ _ _ iμ2
def vX12_readLaw_48 (k59 : Int32 → Int32 → km_S → Prop) (Q : km_S → Prop) (l1 : Int32) (l2 : Int32) (μ : km_S) : Prop := ((¬ l1 = 12 → k59 l1 l2 μ) ∧ (l1 = 12 → vX12_wrong 2 μ (fun μ4 => k59 l1 l2 μ4)))
set_option maxRecDepth 100000 in
set_option maxHeartbeats 4000000 in
theorem jcX12_readLaw_48 {k59 k59' k59'' : Int32 → Int32 → km_S → Prop} (hk59 : ∀ y0 y1 y2, k59 y0 y1 y2 → k59' y0 y1 y2 → k59'' y0 y1 y2) {Q Q' Q'' : km_S → Prop} (hQ : ∀ y0, Q y0 → Q' y0 → Q'' y0) : ∀ (l1 : Int32) (l2 : Int32) (μ : km_S), wX12_readLaw_48 k59 Q l1 l2 μ → vX12_readLaw_48 k59' Q' l1 l2 μ → wX12_readLaw_48 k59'' Q'' l1 l2 μ := by
  intro l1 l2 μ h v
  unfold wX12_readLaw_48 at h
  unfold vX12_readLaw_48 at v
  unfold wX12_readLaw_48
  refine ⟨?_, ?_⟩
  · have h := h.1
    have v := v.1
    intro e1
    have h := h e1
    have v := v e1
    exact hk59 _ _ _ h v
  · have h := h.2
    have v := v.2
    intro e2
    have h := h e2
    have v := v e2
    refine jcX12_wrong ?_ _ _ h v
    intro μ4 h v
    exact hk59 _ _ _ h v
set_option maxRecDepth 100000 in
set_option maxHeartbeats 4000000 in
theorem jaX12_readLaw_48 {k59 k59' : Int32 → Int32 → km_S → Prop} (hk59 : ∀ y0 y1 y2, k59 y0 y1 y2 → k59' y0 y1 y2) {Q Q' : km_S → Prop} (hQ : ∀ y0, Q y0 → Q' y0) : ∀ (l1 : Int32) (l2 : Int32) (μ : km_S), wX12_readLaw_48 k59 Q l1 l2 μ → vX12_readLaw_48 k59' Q' l1 l2 μ := by
  intro l1 l2 μ h
  unfold wX12_readLaw_48 at h
  unfold vX12_readLaw_48
  refine ⟨?_, ?_⟩
  · have h := h.1
    intro e1
    have h := h e1
    exact hk59 _ _ _ h
  · have h := h.2
    intro e2
    have h := h e2
    refine jaX12_wrong ?_ _ _ h
    intro μ4 h
    exact hk59 _ _ _ h
set_option maxRecDepth 100000 in
set_option maxHeartbeats 4000000 in
theorem jfX12_readLaw_48 {I : km_S → Prop} (W : gw_ I [66, 67]) {k59 : Int32 → Int32 → km_S → Prop} (hk59 : ∀ y0 y1 y2, I y2 → k59 y0 y1 y2) {Q : km_S → Prop} (hQ : ∀ y0, I y0 → Q y0) : ∀ (l1 : Int32) (l2 : Int32) (μ : km_S), I μ → vX12_readLaw_48 k59 Q l1 l2 μ := by
  intro l1 l2 μ i
  unfold vX12_readLaw_48
  refine ⟨?_, ?_⟩
  · intro e1
    exact hk59 _ _ _ i
  · intro e2
    refine jfX12_wrong (I := I) (gw_sub W (by decide)) ?_ _ _ i
    intro μ4 iμ4
    exact hk59 _ _ _ iμ4
def vX12_readLaw_147 (Q : km_S → Prop) (l1 : Int32) (μ : km_S) : Prop := vp_in ((13 * (km_i μ 5)) + l1) 78 → ∀ μ6, μ6 = km_sa μ 55 ((13 * (km_i μ 5)) + l1).toNatClampNeg (km_i μ 59) → vp_in (km_i μ6 5) 6 → ∀ μ8, μ8 = km_sa μ6 54 (km_i μ6 5).toNatClampNeg l1 → Q μ8
set_option maxRecDepth 100000 in
set_option maxHeartbeats 4000000 in
theorem jcX12_readLaw_147 {Q Q' Q'' : km_S → Prop} (hQ : ∀ y0, Q y0 → Q' y0 → Q'' y0) : ∀ (l1 : Int32) (μ : km_S), wX12_readLaw_147 Q l1 μ → vX12_readLaw_147 Q' l1 μ → wX12_readLaw_147 Q'' l1 μ := by
  intro l1 μ h v
  unfold wX12_readLaw_147 at h
  unfold vX12_readLaw_147 at v
  unfold wX12_readLaw_147
  refine ⟨h.1, ?_⟩
  have v := v h.1
  have h := h.2
  intro μ6 e2
  have h := h μ6 e2
  have v := v μ6 e2
  refine ⟨h.1, ?_⟩
  have v := v h.1
  have h := h.2
  intro μ8 e4
  have h := h μ8 e4
  have v := v μ8 e4
  exact hQ _ h v
set_option maxRecDepth 100000 in
set_option maxHeartbeats 4000000 in
theorem jaX12_readLaw_147 {Q Q' : km_S → Prop} (hQ : ∀ y0, Q y0 → Q' y0) : ∀ (l1 : Int32) (μ : km_S), wX12_readLaw_147 Q l1 μ → vX12_readLaw_147 Q' l1 μ := by
  intro l1 μ h
  unfold wX12_readLaw_147 at h
  unfold vX12_readLaw_147
  intro e1
  have h := h.2
  intro μ6 e2
  have h := h μ6 e2
  intro e3
  have h := h.2
  intro μ8 e4
  have h := h μ8 e4
  exact hQ _ h
set_option maxRecDepth 100000 in
set_option maxHeartbeats 4000000 in
theorem jfX12_readLaw_147 {I : km_S → Prop} (W : gw_ I [54, 55]) {Q : km_S → Prop} (hQ : ∀ y0, I y0 → Q y0) : ∀ (l1 : Int32) (μ : km_S), I μ → vX12_readLaw_147 Q l1 μ := by
  intro l1 μ i
  unfold vX12_readLaw_147
  intro e1
  intro μ6 e2
  have iμ6 : I μ6 := by rw [e2]; exact ((W _ i) 55 (by decide)).2.1 _ _
  intro e3
  intro μ8 e4
  have iμ8 : I μ8 := by rw [e4]; exact ((W _ iμ6) 54 (by decide)).2.1 _ _
  exact hQ _ iμ8
def vX12_readLaw_59 (k6 : Int32 → km_S → Prop) (Q : km_S → Prop) (l1 : Int32) (l2 : Int32) (μ : km_S) : Prop := (((km_i μ 66) = 0 → vp_in ((12 * (km_i μ 5)) + l1) 72 → ∀ μ11, μ11 = km_sa μ 58 ((12 * (km_i μ 5)) + l1).toNatClampNeg (vp_nar .boolean l2) → vp_in ((13 * (km_i μ11 5)) + l1) 78 → ∀ μ13, μ13 = km_sa μ11 55 ((13 * (km_i μ11 5)) + l1).toNatClampNeg (km_i μ11 59) → ∀ v14 : Int32, v14 = l1 + 1 → vX12_step μ13 (fun μ15 => vX12_readExpression 10 0 μ15 (fun μ16 => ((¬ (km_i μ16 66) = 0 → vX12_readLaw_133 k6 Q v14 μ16) ∧ ((km_i μ16 66) = 0 → vX12_isSign 59 μ16 (fun r19 μ18 => ((¬ r19 = 0 → vX12_readLaw_133 k6 Q v14 μ18) ∧ (r19 = 0 → vX12_wrong 1 μ18 (fun μ21 => vX12_readLaw_133 k6 Q v14 μ21))))))))) ∧ (¬ ((km_i μ 66) = 0) → Q μ))
set_option maxRecDepth 100000 in
set_option maxHeartbeats 4000000 in
theorem jcX12_readLaw_59 {k6 k6' k6'' : Int32 → km_S → Prop} (hk6 : ∀ y0 y1, k6 y0 y1 → k6' y0 y1 → k6'' y0 y1) {Q Q' Q'' : km_S → Prop} (hQ : ∀ y0, Q y0 → Q' y0 → Q'' y0) : ∀ (l1 : Int32) (l2 : Int32) (μ : km_S), wX12_readLaw_59 k6 Q l1 l2 μ → vX12_readLaw_59 k6' Q' l1 l2 μ → wX12_readLaw_59 k6'' Q'' l1 l2 μ := by
  intro l1 l2 μ h v
  unfold wX12_readLaw_59 at h
  unfold vX12_readLaw_59 at v
  unfold wX12_readLaw_59
  refine ⟨?_, ?_⟩
  · have h := h.1
    have v := v.1
    intro e1
    have h := h e1
    have v := v e1
    refine ⟨h.1, ?_⟩
    have v := v h.1
    have h := h.2
    intro μ11 e3
    have h := h μ11 e3
    have v := v μ11 e3
    refine ⟨h.1, ?_⟩
    have v := v h.1
    have h := h.2
    intro μ13 e5
    have h := h μ13 e5
    have v := v μ13 e5
    intro v14 e6
    have h := h v14 e6
    have v := v v14 e6
    refine jcX12_step ?_ _ h v
    intro μ15 h v
    refine jcX12_readExpression ?_ _ _ _ h v
    intro μ16 h v
    refine ⟨?_, ?_⟩
    · have h := h.1
      have v := v.1
      intro e7
      have h := h e7
      have v := v e7
      exact jcX12_readLaw_133 hk6 hQ _ _ h v
    · have h := h.2
      have v := v.2
      intro e8
      have h := h e8
      have v := v e8
      refine jcX12_isSign ?_ _ _ h v
      intro r19 μ18 h v
      refine ⟨?_, ?_⟩
      · have h := h.1
        have v := v.1
        intro e9
        have h := h e9
        have v := v e9
        exact jcX12_readLaw_133 hk6 hQ _ _ h v
      · have h := h.2
        have v := v.2
        intro e10
        have h := h e10
        have v := v e10
        refine jcX12_wrong ?_ _ _ h v
        intro μ21 h v
        exact jcX12_readLaw_133 hk6 hQ _ _ h v
  · have h := h.2
    have v := v.2
    intro e11
    have h := h e11
    have v := v e11
    exact hQ _ h v
set_option maxRecDepth 100000 in
set_option maxHeartbeats 4000000 in
theorem jaX12_readLaw_59 {k6 k6' : Int32 → km_S → Prop} (hk6 : ∀ y0 y1, k6 y0 y1 → k6' y0 y1) {Q Q' : km_S → Prop} (hQ : ∀ y0, Q y0 → Q' y0) : ∀ (l1 : Int32) (l2 : Int32) (μ : km_S), wX12_readLaw_59 k6 Q l1 l2 μ → vX12_readLaw_59 k6' Q' l1 l2 μ := by
  intro l1 l2 μ h
  unfold wX12_readLaw_59 at h
  unfold vX12_readLaw_59
  refine ⟨?_, ?_⟩
  · have h := h.1
    intro e1
    have h := h e1
    intro e2
    have h := h.2
    intro μ11 e3
    have h := h μ11 e3
    intro e4
    have h := h.2
    intro μ13 e5
    have h := h μ13 e5
    intro v14 e6
    have h := h v14 e6
    refine jaX12_step ?_ _ h
    intro μ15 h
    refine jaX12_readExpression ?_ _ _ _ h
    intro μ16 h
    refine ⟨?_, ?_⟩
    · have h := h.1
      intro e7
      have h := h e7
      exact jaX12_readLaw_133 hk6 hQ _ _ h
    · have h := h.2
      intro e8
      have h := h e8
      refine jaX12_isSign ?_ _ _ h
      intro r19 μ18 h
      refine ⟨?_, ?_⟩
      · have h := h.1
        intro e9
        have h := h e9
        exact jaX12_readLaw_133 hk6 hQ _ _ h
      · have h := h.2
        intro e10
        have h := h e10
        refine jaX12_wrong ?_ _ _ h
        intro μ21 h
        exact jaX12_readLaw_133 hk6 hQ _ _ h
  · have h := h.2
    intro e11
    have h := h e11
    exact hQ _ h
set_option maxRecDepth 100000 in
set_option maxHeartbeats 4000000 in
theorem jfX12_readLaw_59 {I : km_S → Prop} (W : gw_ I [55, 56, 58, 59, 60, 62, 63, 64, 65, 66, 67]) {k6 : Int32 → km_S → Prop} (hk6 : ∀ y0 y1, I y1 → k6 y0 y1) {Q : km_S → Prop} (hQ : ∀ y0, I y0 → Q y0) : ∀ (l1 : Int32) (l2 : Int32) (μ : km_S), I μ → vX12_readLaw_59 k6 Q l1 l2 μ := by
  intro l1 l2 μ i
  unfold vX12_readLaw_59
  refine ⟨?_, ?_⟩
  · intro e1
    intro e2
    intro μ11 e3
    have iμ11 : I μ11 := by rw [e3]; exact ((W _ i) 58 (by decide)).2.1 _ _
    intro e4
    intro μ13 e5
    have iμ13 : I μ13 := by rw [e5]; exact ((W _ iμ11) 55 (by decide)).2.1 _ _
    intro v14 e6
    refine jfX12_step (I := I) (gw_sub W (by decide)) ?_ _ iμ13
    intro μ15 iμ15
    refine jfX12_readExpression (I := I) (gw_sub W (by decide)) ?_ _ _ _ iμ15
    intro μ16 iμ16
    refine ⟨?_, ?_⟩
    · intro e7
      exact jfX12_readLaw_133 (I := I) (gw_sub W (by decide)) hk6 hQ _ _ iμ16
    · intro e8
      refine jfX12_isSign (I := I) (gw_sub W (by decide)) ?_ _ _ iμ16
      intro r19 μ18 iμ18
      refine ⟨?_, ?_⟩
      · intro e9
        exact jfX12_readLaw_133 (I := I) (gw_sub W (by decide)) hk6 hQ _ _ iμ18
      · intro e10
        refine jfX12_wrong (I := I) (gw_sub W (by decide)) ?_ _ _ iμ18
        intro μ21 iμ21
        exact jfX12_readLaw_133 (I := I) (gw_sub W (by decide)) hk6 hQ _ _ iμ21
  · intro e11
    exact hQ _ i
def vX12_readLaw_6 (k147 : Int32 → km_S → Prop) (Q : km_S → Prop) : Nat → Int32 → km_S → Prop
  | 0, _, _ => True
  | n + 1, l1, μ => ((¬ (km_i μ 66) = 0 → k147 l1 μ) ∧ ((km_i μ 66) = 0 → (((km_i μ 62) = 0 → k147 l1 μ) ∧ (¬ ((km_i μ 62) = 0) → vX12_isWord 7 μ (fun r25 μ24 => ((¬ r25 = 0 → vX12_readLaw_48 (vX12_readLaw_59 (vX12_readLaw_6 k147 Q n) Q) Q l1 r25 μ24) ∧ (r25 = 0 → vX12_isWord 8 μ24 (fun r28 μ27 => ((¬ r28 = 0 → vX12_readLaw_48 (vX12_readLaw_59 (vX12_readLaw_6 k147 Q n) Q) Q l1 r25 μ27) ∧ (r28 = 0 → vX12_wrong 1 μ27 (fun μ30 => vX12_readLaw_59 (vX12_readLaw_6 k147 Q n) Q l1 r25 μ30)))))))))))
set_option maxRecDepth 100000 in
set_option maxHeartbeats 4000000 in
theorem jcX12_readLaw_6 {k147 k147' k147'' : Int32 → km_S → Prop} (hk147 : ∀ y0 y1, k147 y0 y1 → k147' y0 y1 → k147'' y0 y1) {Q Q' Q'' : km_S → Prop} (hQ : ∀ y0, Q y0 → Q' y0 → Q'' y0) : ∀ (n : Nat) (l1 : Int32) (μ : km_S), wX12_readLaw_6 k147 Q n l1 μ → vX12_readLaw_6 k147' Q' n l1 μ → wX12_readLaw_6 k147'' Q'' n l1 μ := by
  intro n
  induction n with
  | zero => intro l1 μ h; exact h.elim
  | succ n ih =>
    intro l1 μ h v
    unfold wX12_readLaw_6 at h
    unfold vX12_readLaw_6 at v
    unfold wX12_readLaw_6
    refine ⟨?_, ?_⟩
    · have h := h.1
      have v := v.1
      intro e1
      have h := h e1
      have v := v e1
      exact hk147 _ _ h v
    · have h := h.2
      have v := v.2
      intro e2
      have h := h e2
      have v := v e2
      refine ⟨?_, ?_⟩
      · have h := h.1
        have v := v.1
        intro e3
        have h := h e3
        have v := v e3
        exact hk147 _ _ h v
      · have h := h.2
        have v := v.2
        intro e4
        have h := h e4
        have v := v e4
        refine jcX12_isWord ?_ _ _ h v
        intro r25 μ24 h v
        refine ⟨?_, ?_⟩
        · have h := h.1
          have v := v.1
          intro e5
          have h := h e5
          have v := v e5
          exact jcX12_readLaw_48 (k59 := wX12_readLaw_59 (wX12_readLaw_6 k147 Q n) Q) (k59' := vX12_readLaw_59 (vX12_readLaw_6 k147' Q' n) Q') (k59'' := wX12_readLaw_59 (wX12_readLaw_6 k147'' Q'' n) Q'') (fun _ _ _ h v => jcX12_readLaw_59 (k6 := wX12_readLaw_6 k147 Q n) (k6' := vX12_readLaw_6 k147' Q' n) (k6'' := wX12_readLaw_6 k147'' Q'' n) (fun _ _ h v => ih _ _ h v) hQ _ _ _ h v) hQ _ _ _ h v
        · have h := h.2
          have v := v.2
          intro e6
          have h := h e6
          have v := v e6
          refine jcX12_isWord ?_ _ _ h v
          intro r28 μ27 h v
          refine ⟨?_, ?_⟩
          · have h := h.1
            have v := v.1
            intro e7
            have h := h e7
            have v := v e7
            exact jcX12_readLaw_48 (k59 := wX12_readLaw_59 (wX12_readLaw_6 k147 Q n) Q) (k59' := vX12_readLaw_59 (vX12_readLaw_6 k147' Q' n) Q') (k59'' := wX12_readLaw_59 (wX12_readLaw_6 k147'' Q'' n) Q'') (fun _ _ _ h v => jcX12_readLaw_59 (k6 := wX12_readLaw_6 k147 Q n) (k6' := vX12_readLaw_6 k147' Q' n) (k6'' := wX12_readLaw_6 k147'' Q'' n) (fun _ _ h v => ih _ _ h v) hQ _ _ _ h v) hQ _ _ _ h v
          · have h := h.2
            have v := v.2
            intro e8
            have h := h e8
            have v := v e8
            refine jcX12_wrong ?_ _ _ h v
            intro μ30 h v
            exact jcX12_readLaw_59 (k6 := wX12_readLaw_6 k147 Q n) (k6' := vX12_readLaw_6 k147' Q' n) (k6'' := wX12_readLaw_6 k147'' Q'' n) (fun _ _ h v => ih _ _ h v) hQ _ _ _ h v
set_option maxRecDepth 100000 in
set_option maxHeartbeats 4000000 in
theorem jaX12_readLaw_6 {k147 k147' : Int32 → km_S → Prop} (hk147 : ∀ y0 y1, k147 y0 y1 → k147' y0 y1) {Q Q' : km_S → Prop} (hQ : ∀ y0, Q y0 → Q' y0) : ∀ (n m : Nat) (l1 : Int32) (μ : km_S), wX12_readLaw_6 k147 Q n l1 μ → vX12_readLaw_6 k147' Q' m l1 μ := by
  intro n
  induction n with
  | zero => intro m l1 μ h; exact h.elim
  | succ n ih =>
    intro m l1 μ h
    cases m with
    | zero => exact trivial
    | succ m =>
      unfold wX12_readLaw_6 at h
      unfold vX12_readLaw_6
      refine ⟨?_, ?_⟩
      · have h := h.1
        intro e1
        have h := h e1
        exact hk147 _ _ h
      · have h := h.2
        intro e2
        have h := h e2
        refine ⟨?_, ?_⟩
        · have h := h.1
          intro e3
          have h := h e3
          exact hk147 _ _ h
        · have h := h.2
          intro e4
          have h := h e4
          refine jaX12_isWord ?_ _ _ h
          intro r25 μ24 h
          refine ⟨?_, ?_⟩
          · have h := h.1
            intro e5
            have h := h e5
            exact jaX12_readLaw_48 (k59 := wX12_readLaw_59 (wX12_readLaw_6 k147 Q n) Q) (k59' := vX12_readLaw_59 (vX12_readLaw_6 k147' Q' m) Q') (fun _ _ _ h => jaX12_readLaw_59 (k6 := wX12_readLaw_6 k147 Q n) (k6' := vX12_readLaw_6 k147' Q' m) (fun _ _ h => ih m _ _ h) hQ _ _ _ h) hQ _ _ _ h
          · have h := h.2
            intro e6
            have h := h e6
            refine jaX12_isWord ?_ _ _ h
            intro r28 μ27 h
            refine ⟨?_, ?_⟩
            · have h := h.1
              intro e7
              have h := h e7
              exact jaX12_readLaw_48 (k59 := wX12_readLaw_59 (wX12_readLaw_6 k147 Q n) Q) (k59' := vX12_readLaw_59 (vX12_readLaw_6 k147' Q' m) Q') (fun _ _ _ h => jaX12_readLaw_59 (k6 := wX12_readLaw_6 k147 Q n) (k6' := vX12_readLaw_6 k147' Q' m) (fun _ _ h => ih m _ _ h) hQ _ _ _ h) hQ _ _ _ h
            · have h := h.2
              intro e8
              have h := h e8
              refine jaX12_wrong ?_ _ _ h
              intro μ30 h
              exact jaX12_readLaw_59 (k6 := wX12_readLaw_6 k147 Q n) (k6' := vX12_readLaw_6 k147' Q' m) (fun _ _ h => ih m _ _ h) hQ _ _ _ h
set_option maxRecDepth 100000 in
set_option maxHeartbeats 4000000 in
theorem jfX12_readLaw_6 {I : km_S → Prop} (W : gw_ I [55, 56, 58, 59, 60, 62, 63, 64, 65, 66, 67]) {k147 : Int32 → km_S → Prop} (hk147 : ∀ y0 y1, I y1 → k147 y0 y1) {Q : km_S → Prop} (hQ : ∀ y0, I y0 → Q y0) : ∀ (n : Nat) (l1 : Int32) (μ : km_S), I μ → vX12_readLaw_6 k147 Q n l1 μ := by
  intro n
  induction n with
  | zero => intro l1 μ i; exact trivial
  | succ n ih =>
    intro l1 μ i
    unfold vX12_readLaw_6
    refine ⟨?_, ?_⟩
    · intro e1
      exact hk147 _ _ i
    · intro e2
      refine ⟨?_, ?_⟩
      · intro e3
        exact hk147 _ _ i
      · intro e4
        refine jfX12_isWord (I := I) (gw_sub W (by decide)) ?_ _ _ i
        intro r25 μ24 iμ24
        refine ⟨?_, ?_⟩
        · intro e5
          exact jfX12_readLaw_48 (I := I) (gw_sub W (by decide)) (k59 := vX12_readLaw_59 (vX12_readLaw_6 k147 Q n) Q) (fun _ _ _ i => jfX12_readLaw_59 (I := I) (gw_sub W (by decide)) (k6 := vX12_readLaw_6 k147 Q n) (fun _ _ i => ih _ _ i) hQ _ _ _ i) hQ _ _ _ iμ24
        · intro e6
          refine jfX12_isWord (I := I) (gw_sub W (by decide)) ?_ _ _ iμ24
          intro r28 μ27 iμ27
          refine ⟨?_, ?_⟩
          · intro e7
            exact jfX12_readLaw_48 (I := I) (gw_sub W (by decide)) (k59 := vX12_readLaw_59 (vX12_readLaw_6 k147 Q n) Q) (fun _ _ _ i => jfX12_readLaw_59 (I := I) (gw_sub W (by decide)) (k6 := vX12_readLaw_6 k147 Q n) (fun _ _ i => ih _ _ i) hQ _ _ _ i) hQ _ _ _ iμ27
          · intro e8
            refine jfX12_wrong (I := I) (gw_sub W (by decide)) ?_ _ _ iμ27
            intro μ30 iμ30
            exact jfX12_readLaw_59 (I := I) (gw_sub W (by decide)) (k6 := vX12_readLaw_6 k147 Q n) (fun _ _ i => ih _ _ i) hQ _ _ _ iμ30
def vX12_readLaw (μ : km_S) (Q : km_S → Prop) : Prop := vX12_step μ (fun μ31 => ∀ j, vX12_readLaw_6 (vX12_readLaw_147 Q) Q j 0 μ31)
set_option maxRecDepth 100000 in
set_option maxHeartbeats 4000000 in
theorem jcX12_readLaw {Q Q' Q'' : km_S → Prop} (hQ : ∀ y0, Q y0 → Q' y0 → Q'' y0) : ∀ (μ : km_S), wX12_readLaw μ Q → vX12_readLaw μ Q' → wX12_readLaw μ Q'' := by
  intro μ h v
  unfold wX12_readLaw at h
  unfold vX12_readLaw at v
  unfold wX12_readLaw
  refine jcX12_step ?_ _ h v
  intro μ31 h v
  obtain ⟨j, h⟩ := h
  refine ⟨j, ?_⟩
  have v := v j
  exact jcX12_readLaw_6 (k147 := wX12_readLaw_147 Q) (k147' := vX12_readLaw_147 Q') (k147'' := wX12_readLaw_147 Q'') (fun _ _ h v => jcX12_readLaw_147 hQ _ _ h v) hQ _ _ _ h v
set_option maxRecDepth 100000 in
set_option maxHeartbeats 4000000 in
theorem jaX12_readLaw {Q Q' : km_S → Prop} (hQ : ∀ y0, Q y0 → Q' y0) : ∀ (μ : km_S), wX12_readLaw μ Q → vX12_readLaw μ Q' := by
  intro μ h
  unfold wX12_readLaw at h
  unfold vX12_readLaw
  refine jaX12_step ?_ _ h
  intro μ31 h
  obtain ⟨j, h⟩ := h
  intro j9
  exact jaX12_readLaw_6 (k147 := wX12_readLaw_147 Q) (k147' := vX12_readLaw_147 Q') (fun _ _ h => jaX12_readLaw_147 hQ _ _ h) hQ _ j9 _ _ h
set_option maxRecDepth 100000 in
set_option maxHeartbeats 4000000 in
theorem jfX12_readLaw {I : km_S → Prop} (W : gw_ I [54, 55, 56, 58, 59, 60, 62, 63, 64, 65, 66, 67]) {Q : km_S → Prop} (hQ : ∀ y0, I y0 → Q y0) : ∀ (μ : km_S), I μ → vX12_readLaw μ Q := by
  intro μ i
  unfold vX12_readLaw
  refine jfX12_step (I := I) (gw_sub W (by decide)) ?_ _ i
  intro μ31 iμ31
  intro j
  exact jfX12_readLaw_6 (I := I) (gw_sub W (by decide)) (k147 := vX12_readLaw_147 Q) (fun _ _ i => jfX12_readLaw_147 (I := I) (gw_sub W (by decide)) hQ _ _ i) hQ _ _ _ iμ31
def vX12_law_28 (Q : Int32 → km_S → Prop) (μ : km_S) : Prop := vX12_fail μ (fun r2 μ1 => Q r2 μ1)
set_option maxRecDepth 100000 in
set_option maxHeartbeats 4000000 in
theorem jcX12_law_28 {Q Q' Q'' : Int32 → km_S → Prop} (hQ : ∀ y0 y1, Q y0 y1 → Q' y0 y1 → Q'' y0 y1) : ∀ (μ : km_S), wX12_law_28 Q μ → vX12_law_28 Q' μ → wX12_law_28 Q'' μ := by
  intro μ h v
  unfold wX12_law_28 at h
  unfold vX12_law_28 at v
  unfold wX12_law_28
  refine jcX12_fail ?_ _ h v
  intro r2 μ1 h v
  exact hQ _ _ h v
set_option maxRecDepth 100000 in
set_option maxHeartbeats 4000000 in
theorem jaX12_law_28 {Q Q' : Int32 → km_S → Prop} (hQ : ∀ y0 y1, Q y0 y1 → Q' y0 y1) : ∀ (μ : km_S), wX12_law_28 Q μ → vX12_law_28 Q' μ := by
  intro μ h
  unfold wX12_law_28 at h
  unfold vX12_law_28
  refine jaX12_fail ?_ _ h
  intro r2 μ1 h
  exact hQ _ _ h
set_option maxRecDepth 100000 in
set_option maxHeartbeats 4000000 in
theorem jfX12_law_28 {I : km_S → Prop} (W : gw_ I [1]) {Q : Int32 → km_S → Prop} (hQ : ∀ y0 y1, I y1 → Q y0 y1) : ∀ (μ : km_S), I μ → vX12_law_28 Q μ := by
  intro μ i
  unfold vX12_law_28
  refine jfX12_fail (I := I) (gw_sub W (by decide)) ?_ _ i
  intro r2 μ1 iμ1
  exact hQ _ _ iμ1
def vX12_law (l1 : Int32) (l2 : Int32) (μ : km_S) (Q : Int32 → km_S → Prop) : Prop := ∀ μ3, μ3 = km_si μ 1 0 → ((l1 < 0 → vX12_law_28 Q μ3) ∧ (¬ (l1 < 0) → (((km_i μ3 9) < l1 → vX12_law_28 Q μ3) ∧ (¬ ((km_i μ3 9) < l1) → ((l2 < 0 → vX12_law_28 Q μ3) ∧ (¬ (l2 < 0) → ((l2 ≤ 1000 → ∀ μ8, μ8 = km_si μ3 9 0 → ∀ μ9, μ9 = km_si μ8 10 (-1) → ((¬ (km_i μ9 5) = 6 → ∀ μ11, μ11 = km_si μ9 61 l1 → ∀ μ12, μ12 = km_si μ11 60 0 → ∀ μ13, μ13 = km_si μ12 66 0 → ∀ μ14, μ14 = km_si μ13 59 0 → vX12_readLaw μ14 (fun μ15 => (((km_i μ15 66) = 0 → vp_in (km_i μ15 5) 6 → ∀ μ18, μ18 = km_sa μ15 53 (km_i μ15 5).toNatClampNeg l2 → ∀ μ19, μ19 = km_si μ18 5 ((km_i μ18 5) + 1) → Q ((km_i μ19 5) - 1) μ19) ∧ (¬ ((km_i μ15 66) = 0) → ∀ μ20, μ20 = km_si μ15 10 (km_i μ15 67) → Q ((-1) - (km_i μ20 66)) μ20)))) ∧ ((km_i μ9 5) = 6 → Q (-9) μ9))) ∧ (¬ (l2 ≤ 1000) → vX12_law_28 Q μ3))))))))
set_option maxRecDepth 100000 in
set_option maxHeartbeats 4000000 in
theorem jcX12_law {Q Q' Q'' : Int32 → km_S → Prop} (hQ : ∀ y0 y1, Q y0 y1 → Q' y0 y1 → Q'' y0 y1) : ∀ (l1 : Int32) (l2 : Int32) (μ : km_S), wX12_law l1 l2 μ Q → vX12_law l1 l2 μ Q' → wX12_law l1 l2 μ Q'' := by
  intro l1 l2 μ h v
  unfold wX12_law at h
  unfold vX12_law at v
  unfold wX12_law
  intro μ3 e1
  have h := h μ3 e1
  have v := v μ3 e1
  refine ⟨?_, ?_⟩
  · have h := h.1
    have v := v.1
    intro e2
    have h := h e2
    have v := v e2
    exact jcX12_law_28 hQ _ h v
  · have h := h.2
    have v := v.2
    intro e3
    have h := h e3
    have v := v e3
    refine ⟨?_, ?_⟩
    · have h := h.1
      have v := v.1
      intro e4
      have h := h e4
      have v := v e4
      exact jcX12_law_28 hQ _ h v
    · have h := h.2
      have v := v.2
      intro e5
      have h := h e5
      have v := v e5
      refine ⟨?_, ?_⟩
      · have h := h.1
        have v := v.1
        intro e6
        have h := h e6
        have v := v e6
        exact jcX12_law_28 hQ _ h v
      · have h := h.2
        have v := v.2
        intro e7
        have h := h e7
        have v := v e7
        refine ⟨?_, ?_⟩
        · have h := h.1
          have v := v.1
          intro e8
          have h := h e8
          have v := v e8
          intro μ8 e9
          have h := h μ8 e9
          have v := v μ8 e9
          intro μ9 e10
          have h := h μ9 e10
          have v := v μ9 e10
          refine ⟨?_, ?_⟩
          · have h := h.1
            have v := v.1
            intro e11
            have h := h e11
            have v := v e11
            intro μ11 e12
            have h := h μ11 e12
            have v := v μ11 e12
            intro μ12 e13
            have h := h μ12 e13
            have v := v μ12 e13
            intro μ13 e14
            have h := h μ13 e14
            have v := v μ13 e14
            intro μ14 e15
            have h := h μ14 e15
            have v := v μ14 e15
            refine jcX12_readLaw ?_ _ h v
            intro μ15 h v
            refine ⟨?_, ?_⟩
            · have h := h.1
              have v := v.1
              intro e16
              have h := h e16
              have v := v e16
              refine ⟨h.1, ?_⟩
              have v := v h.1
              have h := h.2
              intro μ18 e18
              have h := h μ18 e18
              have v := v μ18 e18
              intro μ19 e19
              have h := h μ19 e19
              have v := v μ19 e19
              exact hQ _ _ h v
            · have h := h.2
              have v := v.2
              intro e20
              have h := h e20
              have v := v e20
              intro μ20 e21
              have h := h μ20 e21
              have v := v μ20 e21
              exact hQ _ _ h v
          · have h := h.2
            have v := v.2
            intro e22
            have h := h e22
            have v := v e22
            exact hQ _ _ h v
        · have h := h.2
          have v := v.2
          intro e23
          have h := h e23
          have v := v e23
          exact jcX12_law_28 hQ _ h v
set_option maxRecDepth 100000 in
set_option maxHeartbeats 4000000 in
theorem jaX12_law {Q Q' : Int32 → km_S → Prop} (hQ : ∀ y0 y1, Q y0 y1 → Q' y0 y1) : ∀ (l1 : Int32) (l2 : Int32) (μ : km_S), wX12_law l1 l2 μ Q → vX12_law l1 l2 μ Q' := by
  intro l1 l2 μ h
  unfold wX12_law at h
  unfold vX12_law
  intro μ3 e1
  have h := h μ3 e1
  refine ⟨?_, ?_⟩
  · have h := h.1
    intro e2
    have h := h e2
    exact jaX12_law_28 hQ _ h
  · have h := h.2
    intro e3
    have h := h e3
    refine ⟨?_, ?_⟩
    · have h := h.1
      intro e4
      have h := h e4
      exact jaX12_law_28 hQ _ h
    · have h := h.2
      intro e5
      have h := h e5
      refine ⟨?_, ?_⟩
      · have h := h.1
        intro e6
        have h := h e6
        exact jaX12_law_28 hQ _ h
      · have h := h.2
        intro e7
        have h := h e7
        refine ⟨?_, ?_⟩
        · have h := h.1
          intro e8
          have h := h e8
          intro μ8 e9
          have h := h μ8 e9
          intro μ9 e10
          have h := h μ9 e10
          refine ⟨?_, ?_⟩
          · have h := h.1
            intro e11
            have h := h e11
            intro μ11 e12
            have h := h μ11 e12
            intro μ12 e13
            have h := h μ12 e13
            intro μ13 e14
            have h := h μ13 e14
            intro μ14 e15
            have h := h μ14 e15
            refine jaX12_readLaw ?_ _ h
            intro μ15 h
            refine ⟨?_, ?_⟩
            · have h := h.1
              intro e16
              have h := h e16
              intro e17
              have h := h.2
              intro μ18 e18
              have h := h μ18 e18
              intro μ19 e19
              have h := h μ19 e19
              exact hQ _ _ h
            · have h := h.2
              intro e20
              have h := h e20
              intro μ20 e21
              have h := h μ20 e21
              exact hQ _ _ h
          · have h := h.2
            intro e22
            have h := h e22
            exact hQ _ _ h
        · have h := h.2
          intro e23
          have h := h e23
          exact jaX12_law_28 hQ _ h
set_option maxRecDepth 100000 in
set_option maxHeartbeats 4000000 in
theorem jfX12_law {I : km_S → Prop} (W : gw_ I [1, 5, 9, 10, 53, 54, 55, 56, 58, 59, 60, 61, 62, 63, 64, 65, 66, 67]) {Q : Int32 → km_S → Prop} (hQ : ∀ y0 y1, I y1 → Q y0 y1) : ∀ (l1 : Int32) (l2 : Int32) (μ : km_S), I μ → vX12_law l1 l2 μ Q := by
  intro l1 l2 μ i
  unfold vX12_law
  intro μ3 e1
  have iμ3 : I μ3 := by rw [e1]; exact ((W _ i) 1 (by decide)).1 _
  refine ⟨?_, ?_⟩
  · intro e2
    exact jfX12_law_28 (I := I) (gw_sub W (by decide)) hQ _ iμ3
  · intro e3
    refine ⟨?_, ?_⟩
    · intro e4
      exact jfX12_law_28 (I := I) (gw_sub W (by decide)) hQ _ iμ3
    · intro e5
      refine ⟨?_, ?_⟩
      · intro e6
        exact jfX12_law_28 (I := I) (gw_sub W (by decide)) hQ _ iμ3
      · intro e7
        refine ⟨?_, ?_⟩
        · intro e8
          intro μ8 e9
          have iμ8 : I μ8 := by rw [e9]; exact ((W _ iμ3) 9 (by decide)).1 _
          intro μ9 e10
          have iμ9 : I μ9 := by rw [e10]; exact ((W _ iμ8) 10 (by decide)).1 _
          refine ⟨?_, ?_⟩
          · intro e11
            intro μ11 e12
            have iμ11 : I μ11 := by rw [e12]; exact ((W _ iμ9) 61 (by decide)).1 _
            intro μ12 e13
            have iμ12 : I μ12 := by rw [e13]; exact ((W _ iμ11) 60 (by decide)).1 _
            intro μ13 e14
            have iμ13 : I μ13 := by rw [e14]; exact ((W _ iμ12) 66 (by decide)).1 _
            intro μ14 e15
            have iμ14 : I μ14 := by rw [e15]; exact ((W _ iμ13) 59 (by decide)).1 _
            refine jfX12_readLaw (I := I) (gw_sub W (by decide)) ?_ _ iμ14
            intro μ15 iμ15
            refine ⟨?_, ?_⟩
            · intro e16
              intro e17
              intro μ18 e18
              have iμ18 : I μ18 := by rw [e18]; exact ((W _ iμ15) 53 (by decide)).2.1 _ _
              intro μ19 e19
              have iμ19 : I μ19 := by rw [e19]; exact ((W _ iμ18) 5 (by decide)).1 _
              exact hQ _ _ iμ19
            · intro e20
              intro μ20 e21
              have iμ20 : I μ20 := by rw [e21]; exact ((W _ iμ15) 10 (by decide)).1 _
              exact hQ _ _ iμ20
          · intro e22
            exact hQ _ _ iμ9
        · intro e23
          exact jfX12_law_28 (I := I) (gw_sub W (by decide)) hQ _ iμ3
end
section
/-! the class: what is so of every end that is safe -/
def fw_ (I : kx_S → Prop) (W : List Nat) : Prop := ∀ u, I u → (∀ f, f ∈ W → (∀ a v, I (xsi u f a v)) ∧ (∀ a v, I (xsr u f a v)) ∧ ∀ a v, I (xsl u f a v)) ∧ (1001 ∈ W → ∀ a i v, I (xsai u a i v)) ∧ (1002 ∈ W → ∀ a i v, I (xsal u a i v)) ∧ (1003 ∈ W → (∀ a i v, I (xsar u a i v)) ∧ ∀ a f, I (xsAR u a f)) ∧ (1004 ∈ W → ∀ a f, I (xsAI u a f)) ∧ (1005 ∈ W → I (xbump u)) ∧ (∀ t, 1100 + t ∈ W → ∀ p, xt u p = 0 → I (xnew u p t)) ∧ (∀ t, 1200 + t ∈ W → ∀ p, xt u p = 0 → ∀ n, I (xnewA u p t n))
theorem fw_sub {I : kx_S → Prop} {W V : List Nat} (h : fw_ I W) (s : ∀ f ∈ V, f ∈ W) : fw_ I V := fun u i =>
  ⟨fun f hf => (h u i).1 f (s f hf), fun q => (h u i).2.1 (s _ q), fun q => (h u i).2.2.1 (s _ q), fun q => (h u i).2.2.2.1 (s _ q), fun q => (h u i).2.2.2.2.1 (s _ q), fun q => (h u i).2.2.2.2.2.1 (s _ q), fun t q => (h u i).2.2.2.2.2.2.1 t (s _ q), fun t q => (h u i).2.2.2.2.2.2.2 t (s _ q)⟩

def vJ3_checkIndex_8e157_9 (Q : Int32 → kx_S → Prop) (l0 : Int32) (l1 : Int32) (l2 : Option Nat) (σ : kx_S) : Prop := True
set_option maxRecDepth 100000 in
set_option maxHeartbeats 4000000 in
theorem jcJ3_checkIndex_8e157_9 {Q Q' Q'' : Int32 → kx_S → Prop} (hQ : ∀ y0 y1, Q y0 y1 → Q' y0 y1 → Q'' y0 y1) : ∀ (l0 : Int32) (l1 : Int32) (l2 : Option Nat) (σ : kx_S), wJ3_checkIndex_8e157_9 Q l0 l1 l2 σ → vJ3_checkIndex_8e157_9 Q' l0 l1 l2 σ → wJ3_checkIndex_8e157_9 Q'' l0 l1 l2 σ := by
  intro l0 l1 l2 σ h v
  unfold wJ3_checkIndex_8e157_9 at h
  unfold vJ3_checkIndex_8e157_9 at v
  unfold wJ3_checkIndex_8e157_9
  exact h.elim
set_option maxRecDepth 100000 in
set_option maxHeartbeats 4000000 in
theorem jaJ3_checkIndex_8e157_9 {Q Q' : Int32 → kx_S → Prop} (hQ : ∀ y0 y1, Q y0 y1 → Q' y0 y1) : ∀ (l0 : Int32) (l1 : Int32) (l2 : Option Nat) (σ : kx_S), wJ3_checkIndex_8e157_9 Q l0 l1 l2 σ → vJ3_checkIndex_8e157_9 Q' l0 l1 l2 σ := by
  intro l0 l1 l2 σ h
  unfold wJ3_checkIndex_8e157_9 at h
  unfold vJ3_checkIndex_8e157_9
  exact h.elim
set_option maxRecDepth 100000 in
set_option maxHeartbeats 4000000 in
theorem jfJ3_checkIndex_8e157_9 {I : kx_S → Prop} (W : fw_ I []) {Q : Int32 → kx_S → Prop} (hQ : ∀ y0 y1, I y1 → Q y0 y1) : ∀ (l0 : Int32) (l1 : Int32) (l2 : Option Nat) (σ : kx_S), I σ → vJ3_checkIndex_8e157_9 Q l0 l1 l2 σ := by
  intro l0 l1 l2 σ i
  unfold vJ3_checkIndex_8e157_9
  exact trivial
def vJ3_checkIndex_8e157 (l0 : Int32) (l1 : Int32) (l2 : Option Nat) (σ : kx_S) (Q : Int32 → kx_S → Prop) : Prop := ((l0 < 0 → vJ3_checkIndex_8e157_9 Q l0 l1 l2 σ) ∧ (¬ (l0 < 0) → ((l0 < l1 → Q l0 σ) ∧ (¬ (l0 < l1) → vJ3_checkIndex_8e157_9 Q l0 l1 l2 σ))))
set_option maxRecDepth 100000 in
set_option maxHeartbeats 4000000 in
theorem jcJ3_checkIndex_8e157 {Q Q' Q'' : Int32 → kx_S → Prop} (hQ : ∀ y0 y1, Q y0 y1 → Q' y0 y1 → Q'' y0 y1) : ∀ (l0 : Int32) (l1 : Int32) (l2 : Option Nat) (σ : kx_S), wJ3_checkIndex_8e157 l0 l1 l2 σ Q → vJ3_checkIndex_8e157 l0 l1 l2 σ Q' → wJ3_checkIndex_8e157 l0 l1 l2 σ Q'' := by
  intro l0 l1 l2 σ h v
  unfold wJ3_checkIndex_8e157 at h
  unfold vJ3_checkIndex_8e157 at v
  unfold wJ3_checkIndex_8e157
  refine ⟨?_, ?_⟩
  · have h := h.1
    have v := v.1
    intro e1
    have h := h e1
    have v := v e1
    exact jcJ3_checkIndex_8e157_9 hQ _ _ _ _ h v
  · have h := h.2
    have v := v.2
    intro e2
    have h := h e2
    have v := v e2
    refine ⟨?_, ?_⟩
    · have h := h.1
      have v := v.1
      intro e3
      have h := h e3
      have v := v e3
      exact hQ _ _ h v
    · have h := h.2
      have v := v.2
      intro e4
      have h := h e4
      have v := v e4
      exact jcJ3_checkIndex_8e157_9 hQ _ _ _ _ h v
set_option maxRecDepth 100000 in
set_option maxHeartbeats 4000000 in
theorem jaJ3_checkIndex_8e157 {Q Q' : Int32 → kx_S → Prop} (hQ : ∀ y0 y1, Q y0 y1 → Q' y0 y1) : ∀ (l0 : Int32) (l1 : Int32) (l2 : Option Nat) (σ : kx_S), wJ3_checkIndex_8e157 l0 l1 l2 σ Q → vJ3_checkIndex_8e157 l0 l1 l2 σ Q' := by
  intro l0 l1 l2 σ h
  unfold wJ3_checkIndex_8e157 at h
  unfold vJ3_checkIndex_8e157
  refine ⟨?_, ?_⟩
  · have h := h.1
    intro e1
    have h := h e1
    exact jaJ3_checkIndex_8e157_9 hQ _ _ _ _ h
  · have h := h.2
    intro e2
    have h := h e2
    refine ⟨?_, ?_⟩
    · have h := h.1
      intro e3
      have h := h e3
      exact hQ _ _ h
    · have h := h.2
      intro e4
      have h := h e4
      exact jaJ3_checkIndex_8e157_9 hQ _ _ _ _ h
set_option maxRecDepth 100000 in
set_option maxHeartbeats 4000000 in
theorem jfJ3_checkIndex_8e157 {I : kx_S → Prop} (W : fw_ I []) {Q : Int32 → kx_S → Prop} (hQ : ∀ y0 y1, I y1 → Q y0 y1) : ∀ (l0 : Int32) (l1 : Int32) (l2 : Option Nat) (σ : kx_S), I σ → vJ3_checkIndex_8e157 l0 l1 l2 σ Q := by
  intro l0 l1 l2 σ i
  unfold vJ3_checkIndex_8e157
  refine ⟨?_, ?_⟩
  · intro e1
    exact jfJ3_checkIndex_8e157_9 (I := I) (fw_sub W (by decide)) hQ _ _ _ _ i
  · intro e2
    refine ⟨?_, ?_⟩
    · intro e3
      exact hQ _ _ i
    · intro e4
      exact jfJ3_checkIndex_8e157_9 (I := I) (fw_sub W (by decide)) hQ _ _ _ _ i
def vJ15_checkIndex_7cf53 (l0 : Int32) (l1 : Int32) (σ : kx_S) (Q : Int32 → kx_S → Prop) : Prop := vJ3_checkIndex_8e157 l0 l1 none σ (fun r2 σ1 => Q r2 σ1)
set_option maxRecDepth 100000 in
set_option maxHeartbeats 4000000 in
theorem jcJ15_checkIndex_7cf53 {Q Q' Q'' : Int32 → kx_S → Prop} (hQ : ∀ y0 y1, Q y0 y1 → Q' y0 y1 → Q'' y0 y1) : ∀ (l0 : Int32) (l1 : Int32) (σ : kx_S), wJ15_checkIndex_7cf53 l0 l1 σ Q → vJ15_checkIndex_7cf53 l0 l1 σ Q' → wJ15_checkIndex_7cf53 l0 l1 σ Q'' := by
  intro l0 l1 σ h v
  unfold wJ15_checkIndex_7cf53 at h
  unfold vJ15_checkIndex_7cf53 at v
  unfold wJ15_checkIndex_7cf53
  refine jcJ3_checkIndex_8e157 ?_ _ _ _ _ h v
  intro r2 σ1 h v
  exact hQ _ _ h v
set_option maxRecDepth 100000 in
set_option maxHeartbeats 4000000 in
theorem jaJ15_checkIndex_7cf53 {Q Q' : Int32 → kx_S → Prop} (hQ : ∀ y0 y1, Q y0 y1 → Q' y0 y1) : ∀ (l0 : Int32) (l1 : Int32) (σ : kx_S), wJ15_checkIndex_7cf53 l0 l1 σ Q → vJ15_checkIndex_7cf53 l0 l1 σ Q' := by
  intro l0 l1 σ h
  unfold wJ15_checkIndex_7cf53 at h
  unfold vJ15_checkIndex_7cf53
  refine jaJ3_checkIndex_8e157 ?_ _ _ _ _ h
  intro r2 σ1 h
  exact hQ _ _ h
set_option maxRecDepth 100000 in
set_option maxHeartbeats 4000000 in
theorem jfJ15_checkIndex_7cf53 {I : kx_S → Prop} (W : fw_ I []) {Q : Int32 → kx_S → Prop} (hQ : ∀ y0 y1, I y1 → Q y0 y1) : ∀ (l0 : Int32) (l1 : Int32) (σ : kx_S), I σ → vJ15_checkIndex_7cf53 l0 l1 σ Q := by
  intro l0 l1 σ i
  unfold vJ15_checkIndex_7cf53
  refine jfJ3_checkIndex_8e157 (I := I) (fw_sub W (by decide)) ?_ _ _ _ _ i
  intro r2 σ1 iσ1
  exact hQ _ _ iσ1
def vJxa1e45_init_da8c8 (l0 : Nat) (σ : kx_S) (Q : kx_S → Prop) : Prop := Q σ
set_option maxRecDepth 100000 in
set_option maxHeartbeats 4000000 in
theorem jcJxa1e45_init_da8c8 {Q Q' Q'' : kx_S → Prop} (hQ : ∀ y0, Q y0 → Q' y0 → Q'' y0) : ∀ (l0 : Nat) (σ : kx_S), wJxa1e45_init_da8c8 l0 σ Q → vJxa1e45_init_da8c8 l0 σ Q' → wJxa1e45_init_da8c8 l0 σ Q'' := by
  intro l0 σ h v
  unfold wJxa1e45_init_da8c8 at h
  unfold vJxa1e45_init_da8c8 at v
  unfold wJxa1e45_init_da8c8
  exact hQ _ h v
set_option maxRecDepth 100000 in
set_option maxHeartbeats 4000000 in
theorem jaJxa1e45_init_da8c8 {Q Q' : kx_S → Prop} (hQ : ∀ y0, Q y0 → Q' y0) : ∀ (l0 : Nat) (σ : kx_S), wJxa1e45_init_da8c8 l0 σ Q → vJxa1e45_init_da8c8 l0 σ Q' := by
  intro l0 σ h
  unfold wJxa1e45_init_da8c8 at h
  unfold vJxa1e45_init_da8c8
  exact hQ _ h
set_option maxRecDepth 100000 in
set_option maxHeartbeats 4000000 in
theorem jfJxa1e45_init_da8c8 {I : kx_S → Prop} (W : fw_ I []) {Q : kx_S → Prop} (hQ : ∀ y0, I y0 → Q y0) : ∀ (l0 : Nat) (σ : kx_S), I σ → vJxa1e45_init_da8c8 l0 σ Q := by
  intro l0 σ i
  unfold vJxa1e45_init_da8c8
  exact hQ _ i
def vJxc12de_init_da8c8 (l0 : Nat) (σ : kx_S) (Q : kx_S → Prop) : Prop := vJxa1e45_init_da8c8 l0 σ (fun σ1 => xt σ1 l0 = 1 → ∀ σ3, σ3 = xsi σ1 16 l0 0 → Q σ3)
set_option maxRecDepth 100000 in
set_option maxHeartbeats 4000000 in
theorem jcJxc12de_init_da8c8 {Q Q' Q'' : kx_S → Prop} (hQ : ∀ y0, Q y0 → Q' y0 → Q'' y0) : ∀ (l0 : Nat) (σ : kx_S), wJxc12de_init_da8c8 l0 σ Q → vJxc12de_init_da8c8 l0 σ Q' → wJxc12de_init_da8c8 l0 σ Q'' := by
  intro l0 σ h v
  unfold wJxc12de_init_da8c8 at h
  unfold vJxc12de_init_da8c8 at v
  unfold wJxc12de_init_da8c8
  refine jcJxa1e45_init_da8c8 ?_ _ _ h v
  intro σ1 h v
  refine ⟨h.1, ?_⟩
  have v := v h.1
  have h := h.2
  intro σ3 e2
  have h := h σ3 e2
  have v := v σ3 e2
  exact hQ _ h v
set_option maxRecDepth 100000 in
set_option maxHeartbeats 4000000 in
theorem jaJxc12de_init_da8c8 {Q Q' : kx_S → Prop} (hQ : ∀ y0, Q y0 → Q' y0) : ∀ (l0 : Nat) (σ : kx_S), wJxc12de_init_da8c8 l0 σ Q → vJxc12de_init_da8c8 l0 σ Q' := by
  intro l0 σ h
  unfold wJxc12de_init_da8c8 at h
  unfold vJxc12de_init_da8c8
  refine jaJxa1e45_init_da8c8 ?_ _ _ h
  intro σ1 h
  intro e1
  have h := h.2
  intro σ3 e2
  have h := h σ3 e2
  exact hQ _ h
set_option maxRecDepth 100000 in
set_option maxHeartbeats 4000000 in
theorem jfJxc12de_init_da8c8 {I : kx_S → Prop} (W : fw_ I [16]) {Q : kx_S → Prop} (hQ : ∀ y0, I y0 → Q y0) : ∀ (l0 : Nat) (σ : kx_S), I σ → vJxc12de_init_da8c8 l0 σ Q := by
  intro l0 σ i
  unfold vJxc12de_init_da8c8
  refine jfJxa1e45_init_da8c8 (I := I) (fw_sub W (by decide)) ?_ _ _ i
  intro σ1 iσ1
  intro e1
  intro σ3 e2
  have iσ3 : I σ3 := by rw [e2]; exact ((W _ iσ1).1 16 (by decide)).1 _ _
  exact hQ _ iσ3
def vJx4a65c_init_da8c8 (l0 : Nat) (σ : kx_S) (Q : kx_S → Prop) : Prop := vJxc12de_init_da8c8 l0 σ (fun σ1 => xt σ1 l0 = 1 → ∀ σ3, σ3 = xsr σ1 17 l0 (some (xz σ1)) → Q σ3)
set_option maxRecDepth 100000 in
set_option maxHeartbeats 4000000 in
theorem jcJx4a65c_init_da8c8 {Q Q' Q'' : kx_S → Prop} (hQ : ∀ y0, Q y0 → Q' y0 → Q'' y0) : ∀ (l0 : Nat) (σ : kx_S), wJx4a65c_init_da8c8 l0 σ Q → vJx4a65c_init_da8c8 l0 σ Q' → wJx4a65c_init_da8c8 l0 σ Q'' := by
  intro l0 σ h v
  unfold wJx4a65c_init_da8c8 at h
  unfold vJx4a65c_init_da8c8 at v
  unfold wJx4a65c_init_da8c8
  refine jcJxc12de_init_da8c8 ?_ _ _ h v
  intro σ1 h v
  refine ⟨h.1, ?_⟩
  have v := v h.1
  have h := h.2
  intro σ3 e2
  have h := h σ3 e2
  have v := v σ3 e2
  exact hQ _ h v
set_option maxRecDepth 100000 in
set_option maxHeartbeats 4000000 in
theorem jaJx4a65c_init_da8c8 {Q Q' : kx_S → Prop} (hQ : ∀ y0, Q y0 → Q' y0) : ∀ (l0 : Nat) (σ : kx_S), wJx4a65c_init_da8c8 l0 σ Q → vJx4a65c_init_da8c8 l0 σ Q' := by
  intro l0 σ h
  unfold wJx4a65c_init_da8c8 at h
  unfold vJx4a65c_init_da8c8
  refine jaJxc12de_init_da8c8 ?_ _ _ h
  intro σ1 h
  intro e1
  have h := h.2
  intro σ3 e2
  have h := h σ3 e2
  exact hQ _ h
set_option maxRecDepth 100000 in
set_option maxHeartbeats 4000000 in
theorem jfJx4a65c_init_da8c8 {I : kx_S → Prop} (W : fw_ I [16, 17]) {Q : kx_S → Prop} (hQ : ∀ y0, I y0 → Q y0) : ∀ (l0 : Nat) (σ : kx_S), I σ → vJx4a65c_init_da8c8 l0 σ Q := by
  intro l0 σ i
  unfold vJx4a65c_init_da8c8
  refine jfJxc12de_init_da8c8 (I := I) (fw_sub W (by decide)) ?_ _ _ i
  intro σ1 iσ1
  intro e1
  intro σ3 e2
  have iσ3 : I σ3 := by rw [e2]; exact ((W _ iσ1).1 17 (by decide)).2.1 _ _
  exact hQ _ iσ3
def vJx4a65c_size_8abf5 (l0 : Nat) (σ : kx_S) (Q : Int32 → kx_S → Prop) : Prop := xt σ l0 = 1 → Q (xi σ 18 l0) σ
set_option maxRecDepth 100000 in
set_option maxHeartbeats 4000000 in
theorem jcJx4a65c_size_8abf5 {Q Q' Q'' : Int32 → kx_S → Prop} (hQ : ∀ y0 y1, Q y0 y1 → Q' y0 y1 → Q'' y0 y1) : ∀ (l0 : Nat) (σ : kx_S), wJx4a65c_size_8abf5 l0 σ Q → vJx4a65c_size_8abf5 l0 σ Q' → wJx4a65c_size_8abf5 l0 σ Q'' := by
  intro l0 σ h v
  unfold wJx4a65c_size_8abf5 at h
  unfold vJx4a65c_size_8abf5 at v
  unfold wJx4a65c_size_8abf5
  refine ⟨h.1, ?_⟩
  have v := v h.1
  have h := h.2
  exact hQ _ _ h v
set_option maxRecDepth 100000 in
set_option maxHeartbeats 4000000 in
theorem jaJx4a65c_size_8abf5 {Q Q' : Int32 → kx_S → Prop} (hQ : ∀ y0 y1, Q y0 y1 → Q' y0 y1) : ∀ (l0 : Nat) (σ : kx_S), wJx4a65c_size_8abf5 l0 σ Q → vJx4a65c_size_8abf5 l0 σ Q' := by
  intro l0 σ h
  unfold wJx4a65c_size_8abf5 at h
  unfold vJx4a65c_size_8abf5
  intro e1
  have h := h.2
  exact hQ _ _ h
set_option maxRecDepth 100000 in
set_option maxHeartbeats 4000000 in
theorem jfJx4a65c_size_8abf5 {I : kx_S → Prop} (W : fw_ I []) {Q : Int32 → kx_S → Prop} (hQ : ∀ y0 y1, I y1 → Q y0 y1) : ∀ (l0 : Nat) (σ : kx_S), I σ → vJx4a65c_size_8abf5 l0 σ Q := by
  intro l0 σ i
  unfold vJx4a65c_size_8abf5
  intro e1
  exact hQ _ _ i
def vJx4a65c_elementData_915e3 (l0 : Nat) (l1 : Int32) (σ : kx_S) (Q : Option Nat → kx_S → Prop) : Prop := xt σ l0 = 1 → ∀ a2, xr σ 17 l0 = some a2 → xt σ a2 = 22 → vp_in l1 (xn σ a2) → Q (xar σ a2 l1.toNatClampNeg) σ
set_option maxRecDepth 100000 in
set_option maxHeartbeats 4000000 in
theorem jcJx4a65c_elementData_915e3 {Q Q' Q'' : Option Nat → kx_S → Prop} (hQ : ∀ y0 y1, Q y0 y1 → Q' y0 y1 → Q'' y0 y1) : ∀ (l0 : Nat) (l1 : Int32) (σ : kx_S), wJx4a65c_elementData_915e3 l0 l1 σ Q → vJx4a65c_elementData_915e3 l0 l1 σ Q' → wJx4a65c_elementData_915e3 l0 l1 σ Q'' := by
  intro l0 l1 σ h v
  unfold wJx4a65c_elementData_915e3 at h
  unfold vJx4a65c_elementData_915e3 at v
  unfold wJx4a65c_elementData_915e3
  refine ⟨h.1, ?_⟩
  have v := v h.1
  have h := h.2
  obtain ⟨a2, e2, h⟩ := h
  refine ⟨a2, e2, ?_⟩
  have v := v a2 e2
  refine ⟨h.1, ?_⟩
  have v := v h.1
  have h := h.2
  refine ⟨h.1, ?_⟩
  have v := v h.1
  have h := h.2
  exact hQ _ _ h v
set_option maxRecDepth 100000 in
set_option maxHeartbeats 4000000 in
theorem jaJx4a65c_elementData_915e3 {Q Q' : Option Nat → kx_S → Prop} (hQ : ∀ y0 y1, Q y0 y1 → Q' y0 y1) : ∀ (l0 : Nat) (l1 : Int32) (σ : kx_S), wJx4a65c_elementData_915e3 l0 l1 σ Q → vJx4a65c_elementData_915e3 l0 l1 σ Q' := by
  intro l0 l1 σ h
  unfold wJx4a65c_elementData_915e3 at h
  unfold vJx4a65c_elementData_915e3
  intro e1
  have h := h.2
  obtain ⟨a2', e2, h⟩ := h
  intro a2 e3
  have x9 : a2' = a2 := Option.some.inj (e2.symm.trans e3)
  rw [x9] at h
  intro e4
  have h := h.2
  intro e5
  have h := h.2
  exact hQ _ _ h
set_option maxRecDepth 100000 in
set_option maxHeartbeats 4000000 in
theorem jfJx4a65c_elementData_915e3 {I : kx_S → Prop} (W : fw_ I []) {Q : Option Nat → kx_S → Prop} (hQ : ∀ y0 y1, I y1 → Q y0 y1) : ∀ (l0 : Nat) (l1 : Int32) (σ : kx_S), I σ → vJx4a65c_elementData_915e3 l0 l1 σ Q := by
  intro l0 l1 σ i
  unfold vJx4a65c_elementData_915e3
  intro e1
  intro a2 e2
  intro e3
  intro e4
  exact hQ _ _ i
def vJx4a65c_get_915e3 (l0 : Nat) (l1 : Int32) (σ : kx_S) (Q : Option Nat → kx_S → Prop) : Prop := xt σ l0 = 1 → vJ15_checkIndex_7cf53 l1 (xi σ 18 l0) σ (fun r3 σ2 => xt σ2 l0 = 1 → vJx4a65c_elementData_915e3 l0 l1 σ2 (fun q5 σ4 => Q q5 σ4))
set_option maxRecDepth 100000 in
set_option maxHeartbeats 4000000 in
theorem jcJx4a65c_get_915e3 {Q Q' Q'' : Option Nat → kx_S → Prop} (hQ : ∀ y0 y1, Q y0 y1 → Q' y0 y1 → Q'' y0 y1) : ∀ (l0 : Nat) (l1 : Int32) (σ : kx_S), wJx4a65c_get_915e3 l0 l1 σ Q → vJx4a65c_get_915e3 l0 l1 σ Q' → wJx4a65c_get_915e3 l0 l1 σ Q'' := by
  intro l0 l1 σ h v
  unfold wJx4a65c_get_915e3 at h
  unfold vJx4a65c_get_915e3 at v
  unfold wJx4a65c_get_915e3
  refine ⟨h.1, ?_⟩
  have v := v h.1
  have h := h.2
  refine jcJ15_checkIndex_7cf53 ?_ _ _ _ h v
  intro r3 σ2 h v
  refine ⟨h.1, ?_⟩
  have v := v h.1
  have h := h.2
  refine jcJx4a65c_elementData_915e3 ?_ _ _ _ h v
  intro q5 σ4 h v
  exact hQ _ _ h v
set_option maxRecDepth 100000 in
set_option maxHeartbeats 4000000 in
theorem jaJx4a65c_get_915e3 {Q Q' : Option Nat → kx_S → Prop} (hQ : ∀ y0 y1, Q y0 y1 → Q' y0 y1) : ∀ (l0 : Nat) (l1 : Int32) (σ : kx_S), wJx4a65c_get_915e3 l0 l1 σ Q → vJx4a65c_get_915e3 l0 l1 σ Q' := by
  intro l0 l1 σ h
  unfold wJx4a65c_get_915e3 at h
  unfold vJx4a65c_get_915e3
  intro e1
  have h := h.2
  refine jaJ15_checkIndex_7cf53 ?_ _ _ _ h
  intro r3 σ2 h
  intro e2
  have h := h.2
  refine jaJx4a65c_elementData_915e3 ?_ _ _ _ h
  intro q5 σ4 h
  exact hQ _ _ h
set_option maxRecDepth 100000 in
set_option maxHeartbeats 4000000 in
theorem jfJx4a65c_get_915e3 {I : kx_S → Prop} (W : fw_ I []) {Q : Option Nat → kx_S → Prop} (hQ : ∀ y0 y1, I y1 → Q y0 y1) : ∀ (l0 : Nat) (l1 : Int32) (σ : kx_S), I σ → vJx4a65c_get_915e3 l0 l1 σ Q := by
  intro l0 l1 σ i
  unfold vJx4a65c_get_915e3
  intro e1
  refine jfJ15_checkIndex_7cf53 (I := I) (fw_sub W (by decide)) ?_ _ _ _ i
  intro r3 σ2 iσ2
  intro e2
  refine jfJx4a65c_elementData_915e3 (I := I) (fw_sub W (by decide)) ?_ _ _ _ iσ2
  intro q5 σ4 iσ4
  exact hQ _ _ iσ4
def vJ8_newLength_cabcc_21 (Q : Int32 → kx_S → Prop) (l0 : Int32) (l1 : Int32) (σ : kx_S) : Prop := True
set_option maxRecDepth 100000 in
set_option maxHeartbeats 4000000 in
theorem jcJ8_newLength_cabcc_21 {Q Q' Q'' : Int32 → kx_S → Prop} (hQ : ∀ y0 y1, Q y0 y1 → Q' y0 y1 → Q'' y0 y1) : ∀ (l0 : Int32) (l1 : Int32) (σ : kx_S), wJ8_newLength_cabcc_21 Q l0 l1 σ → vJ8_newLength_cabcc_21 Q' l0 l1 σ → wJ8_newLength_cabcc_21 Q'' l0 l1 σ := by
  intro l0 l1 σ h v
  unfold wJ8_newLength_cabcc_21 at h
  unfold vJ8_newLength_cabcc_21 at v
  unfold wJ8_newLength_cabcc_21
  exact h.elim
set_option maxRecDepth 100000 in
set_option maxHeartbeats 4000000 in
theorem jaJ8_newLength_cabcc_21 {Q Q' : Int32 → kx_S → Prop} (hQ : ∀ y0 y1, Q y0 y1 → Q' y0 y1) : ∀ (l0 : Int32) (l1 : Int32) (σ : kx_S), wJ8_newLength_cabcc_21 Q l0 l1 σ → vJ8_newLength_cabcc_21 Q' l0 l1 σ := by
  intro l0 l1 σ h
  unfold wJ8_newLength_cabcc_21 at h
  unfold vJ8_newLength_cabcc_21
  exact h.elim
set_option maxRecDepth 100000 in
set_option maxHeartbeats 4000000 in
theorem jfJ8_newLength_cabcc_21 {I : kx_S → Prop} (W : fw_ I []) {Q : Int32 → kx_S → Prop} (hQ : ∀ y0 y1, I y1 → Q y0 y1) : ∀ (l0 : Int32) (l1 : Int32) (σ : kx_S), I σ → vJ8_newLength_cabcc_21 Q l0 l1 σ := by
  intro l0 l1 σ i
  unfold vJ8_newLength_cabcc_21
  exact trivial
def vJ8_newLength_cabcc (l0 : Int32) (l1 : Int32) (l2 : Int32) (σ : kx_S) (Q : Int32 → kx_S → Prop) : Prop := ∀ v1, v1 = (if l1 < l2 then l2 else l1) → ∀ v2, v2 = l0 + v1 → ((v2 ≤ 0 → vJ8_newLength_cabcc_21 Q l0 l1 σ) ∧ (¬ (v2 ≤ 0) → ((2147483639 < v2 → vJ8_newLength_cabcc_21 Q l0 l1 σ) ∧ (¬ (2147483639 < v2) → Q v2 σ))))
set_option maxRecDepth 100000 in
set_option maxHeartbeats 4000000 in
theorem jcJ8_newLength_cabcc {Q Q' Q'' : Int32 → kx_S → Prop} (hQ : ∀ y0 y1, Q y0 y1 → Q' y0 y1 → Q'' y0 y1) : ∀ (l0 : Int32) (l1 : Int32) (l2 : Int32) (σ : kx_S), wJ8_newLength_cabcc l0 l1 l2 σ Q → vJ8_newLength_cabcc l0 l1 l2 σ Q' → wJ8_newLength_cabcc l0 l1 l2 σ Q'' := by
  intro l0 l1 l2 σ h v
  unfold wJ8_newLength_cabcc at h
  unfold vJ8_newLength_cabcc at v
  unfold wJ8_newLength_cabcc
  intro v1 e1
  have h := h v1 e1
  have v := v v1 e1
  intro v2 e2
  have h := h v2 e2
  have v := v v2 e2
  refine ⟨?_, ?_⟩
  · have h := h.1
    have v := v.1
    intro e3
    have h := h e3
    have v := v e3
    exact jcJ8_newLength_cabcc_21 hQ _ _ _ h v
  · have h := h.2
    have v := v.2
    intro e4
    have h := h e4
    have v := v e4
    refine ⟨?_, ?_⟩
    · have h := h.1
      have v := v.1
      intro e5
      have h := h e5
      have v := v e5
      exact jcJ8_newLength_cabcc_21 hQ _ _ _ h v
    · have h := h.2
      have v := v.2
      intro e6
      have h := h e6
      have v := v e6
      exact hQ _ _ h v
set_option maxRecDepth 100000 in
set_option maxHeartbeats 4000000 in
theorem jaJ8_newLength_cabcc {Q Q' : Int32 → kx_S → Prop} (hQ : ∀ y0 y1, Q y0 y1 → Q' y0 y1) : ∀ (l0 : Int32) (l1 : Int32) (l2 : Int32) (σ : kx_S), wJ8_newLength_cabcc l0 l1 l2 σ Q → vJ8_newLength_cabcc l0 l1 l2 σ Q' := by
  intro l0 l1 l2 σ h
  unfold wJ8_newLength_cabcc at h
  unfold vJ8_newLength_cabcc
  intro v1 e1
  have h := h v1 e1
  intro v2 e2
  have h := h v2 e2
  refine ⟨?_, ?_⟩
  · have h := h.1
    intro e3
    have h := h e3
    exact jaJ8_newLength_cabcc_21 hQ _ _ _ h
  · have h := h.2
    intro e4
    have h := h e4
    refine ⟨?_, ?_⟩
    · have h := h.1
      intro e5
      have h := h e5
      exact jaJ8_newLength_cabcc_21 hQ _ _ _ h
    · have h := h.2
      intro e6
      have h := h e6
      exact hQ _ _ h
set_option maxRecDepth 100000 in
set_option maxHeartbeats 4000000 in
theorem jfJ8_newLength_cabcc {I : kx_S → Prop} (W : fw_ I []) {Q : Int32 → kx_S → Prop} (hQ : ∀ y0 y1, I y1 → Q y0 y1) : ∀ (l0 : Int32) (l1 : Int32) (l2 : Int32) (σ : kx_S), I σ → vJ8_newLength_cabcc l0 l1 l2 σ Q := by
  intro l0 l1 l2 σ i
  unfold vJ8_newLength_cabcc
  intro v1 e1
  intro v2 e2
  refine ⟨?_, ?_⟩
  · intro e3
    exact jfJ8_newLength_cabcc_21 (I := I) (fw_sub W (by decide)) hQ _ _ _ i
  · intro e4
    refine ⟨?_, ?_⟩
    · intro e5
      exact jfJ8_newLength_cabcc_21 (I := I) (fw_sub W (by decide)) hQ _ _ _ i
    · intro e6
      exact hQ _ _ i
def vJ7_copyOf_6403c_24 (Q : Nat → kx_S → Prop) (l0 : Nat) (l1 : Int32) (s0 : Nat) (σ : kx_S) : Prop := xt σ l0 = 22 → ∀ v2, v2 = (if l1 < (nI (xn σ l0)) then l1 else (nI (xn σ l0))) → xt σ s0 = 22 → ¬ (0 : Int32) < 0 → ¬ (0 : Int32) < 0 → ¬ v2 < 0 → (Int32.toNatClampNeg 0) + v2.toNatClampNeg ≤ xn σ l0 → (Int32.toNatClampNeg 0) + v2.toNatClampNeg ≤ xn σ s0 → (∀ i : Nat, i < v2.toNatClampNeg → ∀ y : Nat, xar σ l0 ((Int32.toNatClampNeg 0) + i) = some y → kx_el (xt σ y)) → ∀ σ10, σ10 = xsAR σ s0 (va_cpy (xar σ l0) (xar σ s0) (Int32.toNatClampNeg 0) (Int32.toNatClampNeg 0) v2.toNatClampNeg) → Q s0 σ10
set_option maxRecDepth 100000 in
set_option maxHeartbeats 4000000 in
theorem jcJ7_copyOf_6403c_24 {Q Q' Q'' : Nat → kx_S → Prop} (hQ : ∀ y0 y1, Q y0 y1 → Q' y0 y1 → Q'' y0 y1) : ∀ (l0 : Nat) (l1 : Int32) (s0 : Nat) (σ : kx_S), wJ7_copyOf_6403c_24 Q l0 l1 s0 σ → vJ7_copyOf_6403c_24 Q' l0 l1 s0 σ → wJ7_copyOf_6403c_24 Q'' l0 l1 s0 σ := by
  intro l0 l1 s0 σ h v
  unfold wJ7_copyOf_6403c_24 at h
  unfold vJ7_copyOf_6403c_24 at v
  unfold wJ7_copyOf_6403c_24
  refine ⟨h.1, ?_⟩
  have v := v h.1
  have h := h.2
  intro v2 e2
  have h := h v2 e2
  have v := v v2 e2
  refine ⟨h.1, ?_⟩
  have v := v h.1
  have h := h.2
  refine ⟨h.1, ?_⟩
  have v := v h.1
  have h := h.2
  refine ⟨h.1, ?_⟩
  have v := v h.1
  have h := h.2
  refine ⟨h.1, ?_⟩
  have v := v h.1
  have h := h.2
  refine ⟨h.1, ?_⟩
  have v := v h.1
  have h := h.2
  refine ⟨h.1, ?_⟩
  have v := v h.1
  have h := h.2
  refine ⟨h.1, ?_⟩
  have v := v h.1
  have h := h.2
  intro σ10 e10
  have h := h σ10 e10
  have v := v σ10 e10
  exact hQ _ _ h v
set_option maxRecDepth 100000 in
set_option maxHeartbeats 4000000 in
theorem jaJ7_copyOf_6403c_24 {Q Q' : Nat → kx_S → Prop} (hQ : ∀ y0 y1, Q y0 y1 → Q' y0 y1) : ∀ (l0 : Nat) (l1 : Int32) (s0 : Nat) (σ : kx_S), wJ7_copyOf_6403c_24 Q l0 l1 s0 σ → vJ7_copyOf_6403c_24 Q' l0 l1 s0 σ := by
  intro l0 l1 s0 σ h
  unfold wJ7_copyOf_6403c_24 at h
  unfold vJ7_copyOf_6403c_24
  intro e1
  have h := h.2
  intro v2 e2
  have h := h v2 e2
  intro e3
  have h := h.2
  intro e4
  have h := h.2
  intro e5
  have h := h.2
  intro e6
  have h := h.2
  intro e7
  have h := h.2
  intro e8
  have h := h.2
  intro e9
  have h := h.2
  intro σ10 e10
  have h := h σ10 e10
  exact hQ _ _ h
set_option maxRecDepth 100000 in
set_option maxHeartbeats 4000000 in
theorem jfJ7_copyOf_6403c_24 {I : kx_S → Prop} (W : fw_ I [1003]) {Q : Nat → kx_S → Prop} (hQ : ∀ y0 y1, I y1 → Q y0 y1) : ∀ (l0 : Nat) (l1 : Int32) (s0 : Nat) (σ : kx_S), I σ → vJ7_copyOf_6403c_24 Q l0 l1 s0 σ := by
  intro l0 l1 s0 σ i
  unfold vJ7_copyOf_6403c_24
  intro e1
  intro v2 e2
  intro e3
  intro e4
  intro e5
  intro e6
  intro e7
  intro e8
  intro e9
  intro σ10 e10
  have iσ10 : I σ10 := by rw [e10]; exact ((W _ i).2.2.2.1 (by decide)).2 _ _
  exact hQ _ _ iσ10
end
section
def vJ7_copyOf_6403c (l0 : Nat) (l1 : Int32) (σ : kx_S) (Q : Nat → kx_S → Prop) : Prop := xc σ < kx_N → ¬ l1 < 0 → l1.toNatClampNeg ≤ 600 → ∀ p14, xt σ p14 = 0 → p14 ≠ xz σ → ∀ σ20, σ20 = xnewA σ p14 22 l1.toNatClampNeg → vJ7_copyOf_6403c_24 Q l0 l1 p14 σ20
set_option maxRecDepth 100000 in
set_option maxHeartbeats 4000000 in
theorem jcJ7_copyOf_6403c {Q Q' Q'' : Nat → kx_S → Prop} (hQ : ∀ y0 y1, Q y0 y1 → Q' y0 y1 → Q'' y0 y1) : ∀ (l0 : Nat) (l1 : Int32) (σ : kx_S), wJ7_copyOf_6403c l0 l1 σ Q → vJ7_copyOf_6403c l0 l1 σ Q' → wJ7_copyOf_6403c l0 l1 σ Q'' := by
  intro l0 l1 σ h v
  unfold wJ7_copyOf_6403c at h
  unfold vJ7_copyOf_6403c at v
  unfold wJ7_copyOf_6403c
  refine ⟨h.1, ?_⟩
  have v := v h.1
  have h := h.2
  refine ⟨h.1, ?_⟩
  have v := v h.1
  have h := h.2
  refine ⟨h.1, ?_⟩
  have v := v h.1
  have h := h.2
  intro p14 e4 e5
  have h := h p14 e4 e5
  have v := v p14 e4 e5
  intro σ20 e6
  have h := h σ20 e6
  have v := v σ20 e6
  exact jcJ7_copyOf_6403c_24 hQ _ _ _ _ h v
set_option maxRecDepth 100000 in
set_option maxHeartbeats 4000000 in
theorem jaJ7_copyOf_6403c {Q Q' : Nat → kx_S → Prop} (hQ : ∀ y0 y1, Q y0 y1 → Q' y0 y1) : ∀ (l0 : Nat) (l1 : Int32) (σ : kx_S), wJ7_copyOf_6403c l0 l1 σ Q → vJ7_copyOf_6403c l0 l1 σ Q' := by
  intro l0 l1 σ h
  unfold wJ7_copyOf_6403c at h
  unfold vJ7_copyOf_6403c
  intro e1
  have h := h.2
  intro e2
  have h := h.2
  intro e3
  have h := h.2
  intro p14 e4 e5
  have h := h p14 e4 e5
  intro σ20 e6
  have h := h σ20 e6
  exact jaJ7_copyOf_6403c_24 hQ _ _ _ _ h
set_option maxRecDepth 100000 in
set_option maxHeartbeats 4000000 in
theorem jfJ7_copyOf_6403c {I : kx_S → Prop} (W : fw_ I [1003, 1222]) {Q : Nat → kx_S → Prop} (hQ : ∀ y0 y1, I y1 → Q y0 y1) : ∀ (l0 : Nat) (l1 : Int32) (σ : kx_S), I σ → vJ7_copyOf_6403c l0 l1 σ Q := by
  intro l0 l1 σ i
  unfold vJ7_copyOf_6403c
  intro e1
  intro e2
  intro e3
  intro p14 e4 e5
  intro σ20 e6
  have iσ20 : I σ20 := by rw [e6]; exact (W _ i).2.2.2.2.2.2.2 22 (by decide) _ e4 _
  exact jfJ7_copyOf_6403c_24 (I := I) (fw_sub W (by decide)) hQ _ _ _ _ iσ20
def vJ7_copyOf_1904c (l0 : Nat) (l1 : Int32) (σ : kx_S) (Q : Nat → kx_S → Prop) : Prop := xt σ l0 = 22 → vJ7_copyOf_6403c l0 l1 σ (fun b3 σ2 => Q b3 σ2)
set_option maxRecDepth 100000 in
set_option maxHeartbeats 4000000 in
theorem jcJ7_copyOf_1904c {Q Q' Q'' : Nat → kx_S → Prop} (hQ : ∀ y0 y1, Q y0 y1 → Q' y0 y1 → Q'' y0 y1) : ∀ (l0 : Nat) (l1 : Int32) (σ : kx_S), wJ7_copyOf_1904c l0 l1 σ Q → vJ7_copyOf_1904c l0 l1 σ Q' → wJ7_copyOf_1904c l0 l1 σ Q'' := by
  intro l0 l1 σ h v
  unfold wJ7_copyOf_1904c at h
  unfold vJ7_copyOf_1904c at v
  unfold wJ7_copyOf_1904c
  refine ⟨h.1, ?_⟩
  have v := v h.1
  have h := h.2
  refine jcJ7_copyOf_6403c ?_ _ _ _ h v
  intro b3 σ2 h v
  exact hQ _ _ h v
set_option maxRecDepth 100000 in
set_option maxHeartbeats 4000000 in
theorem jaJ7_copyOf_1904c {Q Q' : Nat → kx_S → Prop} (hQ : ∀ y0 y1, Q y0 y1 → Q' y0 y1) : ∀ (l0 : Nat) (l1 : Int32) (σ : kx_S), wJ7_copyOf_1904c l0 l1 σ Q → vJ7_copyOf_1904c l0 l1 σ Q' := by
  intro l0 l1 σ h
  unfold wJ7_copyOf_1904c at h
  unfold vJ7_copyOf_1904c
  intro e1
  have h := h.2
  refine jaJ7_copyOf_6403c ?_ _ _ _ h
  intro b3 σ2 h
  exact hQ _ _ h
set_option maxRecDepth 100000 in
set_option maxHeartbeats 4000000 in
theorem jfJ7_copyOf_1904c {I : kx_S → Prop} (W : fw_ I [1003, 1222]) {Q : Nat → kx_S → Prop} (hQ : ∀ y0 y1, I y1 → Q y0 y1) : ∀ (l0 : Nat) (l1 : Int32) (σ : kx_S), I σ → vJ7_copyOf_1904c l0 l1 σ Q := by
  intro l0 l1 σ i
  unfold vJ7_copyOf_1904c
  intro e1
  refine jfJ7_copyOf_6403c (I := I) (fw_sub W (by decide)) ?_ _ _ _ i
  intro b3 σ2 iσ2
  exact hQ _ _ iσ2
def vJx4a65c_grow_92f84_20 (Q : Nat → kx_S → Prop) (l0 : Nat) (l1 : Int32) (l2 : Int32) (σ : kx_S) : Prop := vJ8_newLength_cabcc l2 (l1 - l2) (l2 >>> (1 &&& 31)) σ (fun r2 σ1 => xt σ1 l0 = 1 → ∀ a4, xr σ1 17 l0 = some a4 → vJ7_copyOf_1904c a4 r2 σ1 (fun b7 σ6 => xt σ6 l0 = 1 → ∀ σ9, σ9 = xsr σ6 17 l0 (some b7) → Q b7 σ9))
set_option maxRecDepth 100000 in
set_option maxHeartbeats 4000000 in
theorem jcJx4a65c_grow_92f84_20 {Q Q' Q'' : Nat → kx_S → Prop} (hQ : ∀ y0 y1, Q y0 y1 → Q' y0 y1 → Q'' y0 y1) : ∀ (l0 : Nat) (l1 : Int32) (l2 : Int32) (σ : kx_S), wJx4a65c_grow_92f84_20 Q l0 l1 l2 σ → vJx4a65c_grow_92f84_20 Q' l0 l1 l2 σ → wJx4a65c_grow_92f84_20 Q'' l0 l1 l2 σ := by
  intro l0 l1 l2 σ h v
  unfold wJx4a65c_grow_92f84_20 at h
  unfold vJx4a65c_grow_92f84_20 at v
  unfold wJx4a65c_grow_92f84_20
  refine jcJ8_newLength_cabcc ?_ _ _ _ _ h v
  intro r2 σ1 h v
  refine ⟨h.1, ?_⟩
  have v := v h.1
  have h := h.2
  obtain ⟨a4, e2, h⟩ := h
  refine ⟨a4, e2, ?_⟩
  have v := v a4 e2
  refine jcJ7_copyOf_1904c ?_ _ _ _ h v
  intro b7 σ6 h v
  refine ⟨h.1, ?_⟩
  have v := v h.1
  have h := h.2
  intro σ9 e4
  have h := h σ9 e4
  have v := v σ9 e4
  exact hQ _ _ h v
set_option maxRecDepth 100000 in
set_option maxHeartbeats 4000000 in
theorem jaJx4a65c_grow_92f84_20 {Q Q' : Nat → kx_S → Prop} (hQ : ∀ y0 y1, Q y0 y1 → Q' y0 y1) : ∀ (l0 : Nat) (l1 : Int32) (l2 : Int32) (σ : kx_S), wJx4a65c_grow_92f84_20 Q l0 l1 l2 σ → vJx4a65c_grow_92f84_20 Q' l0 l1 l2 σ := by
  intro l0 l1 l2 σ h
  unfold wJx4a65c_grow_92f84_20 at h
  unfold vJx4a65c_grow_92f84_20
  refine jaJ8_newLength_cabcc ?_ _ _ _ _ h
  intro r2 σ1 h
  intro e1
  have h := h.2
  obtain ⟨a4', e2, h⟩ := h
  intro a4 e3
  have x9 : a4' = a4 := Option.some.inj (e2.symm.trans e3)
  rw [x9] at h
  refine jaJ7_copyOf_1904c ?_ _ _ _ h
  intro b7 σ6 h
  intro e4
  have h := h.2
  intro σ9 e5
  have h := h σ9 e5
  exact hQ _ _ h
set_option maxRecDepth 100000 in
set_option maxHeartbeats 4000000 in
theorem jfJx4a65c_grow_92f84_20 {I : kx_S → Prop} (W : fw_ I [17, 1003, 1222]) {Q : Nat → kx_S → Prop} (hQ : ∀ y0 y1, I y1 → Q y0 y1) : ∀ (l0 : Nat) (l1 : Int32) (l2 : Int32) (σ : kx_S), I σ → vJx4a65c_grow_92f84_20 Q l0 l1 l2 σ := by
  intro l0 l1 l2 σ i
  unfold vJx4a65c_grow_92f84_20
  refine jfJ8_newLength_cabcc (I := I) (fw_sub W (by decide)) ?_ _ _ _ _ i
  intro r2 σ1 iσ1
  intro e1
  intro a4 e2
  refine jfJ7_copyOf_1904c (I := I) (fw_sub W (by decide)) ?_ _ _ _ iσ1
  intro b7 σ6 iσ6
  intro e3
  intro σ9 e4
  have iσ9 : I σ9 := by rw [e4]; exact ((W _ iσ6).1 17 (by decide)).2.1 _ _
  exact hQ _ _ iσ9
def vJx4a65c_grow_92f84 (l0 : Nat) (l1 : Int32) (σ : kx_S) (Q : Nat → kx_S → Prop) : Prop := xt σ l0 = 1 → ∀ a12, xr σ 17 l0 = some a12 → ((a12 = xz σ → ((0 < (0 : Int32) → vJx4a65c_grow_92f84_20 Q l0 l1 0 σ) ∧ (¬ (0 < (0 : Int32)) → ∀ a16, xr σ 17 l0 = some a16 → ((some a16 = some (xz σ) → ∀ v19, v19 = (if 10 < l1 then l1 else 10) → xc σ < kx_N → ¬ v19 < 0 → v19.toNatClampNeg ≤ 600 → ∀ p20, xt σ p20 = 0 → p20 ≠ xz σ → ∀ σ26, σ26 = xnewA σ p20 22 v19.toNatClampNeg → xt σ26 l0 = 1 → ∀ σ29, σ29 = xsr σ26 17 l0 (some p20) → Q p20 σ29) ∧ (¬ (some a16 = some (xz σ)) → vJx4a65c_grow_92f84_20 Q l0 l1 0 σ))))) ∧ (¬ (a12 = xz σ) → xt σ a12 = 22 → ∀ v33, v33 = nI (xn σ a12) → ((0 < v33 → vJx4a65c_grow_92f84_20 Q l0 l1 v33 σ) ∧ (¬ (0 < v33) → ∀ a35, xr σ 17 l0 = some a35 → ((some a35 = some (xz σ) → ∀ v38, v38 = (if 10 < l1 then l1 else 10) → xc σ < kx_N → ¬ v38 < 0 → v38.toNatClampNeg ≤ 600 → ∀ p39, xt σ p39 = 0 → p39 ≠ xz σ → ∀ σ45, σ45 = xnewA σ p39 22 v38.toNatClampNeg → xt σ45 l0 = 1 → ∀ σ48, σ48 = xsr σ45 17 l0 (some p39) → Q p39 σ48) ∧ (¬ (some a35 = some (xz σ)) → vJx4a65c_grow_92f84_20 Q l0 l1 v33 σ))))))
set_option maxRecDepth 100000 in
set_option maxHeartbeats 4000000 in
theorem jcJx4a65c_grow_92f84 {Q Q' Q'' : Nat → kx_S → Prop} (hQ : ∀ y0 y1, Q y0 y1 → Q' y0 y1 → Q'' y0 y1) : ∀ (l0 : Nat) (l1 : Int32) (σ : kx_S), wJx4a65c_grow_92f84 l0 l1 σ Q → vJx4a65c_grow_92f84 l0 l1 σ Q' → wJx4a65c_grow_92f84 l0 l1 σ Q'' := by
  intro l0 l1 σ h v
  unfold wJx4a65c_grow_92f84 at h
  unfold vJx4a65c_grow_92f84 at v
  unfold wJx4a65c_grow_92f84
  refine ⟨h.1, ?_⟩
  have v := v h.1
  have h := h.2
  obtain ⟨a12, e2, h⟩ := h
  refine ⟨a12, e2, ?_⟩
  have v := v a12 e2
  refine ⟨?_, ?_⟩
  · have h := h.1
    have v := v.1
    intro e3
    have h := h e3
    have v := v e3
    refine ⟨?_, ?_⟩
    · have h := h.1
      have v := v.1
      intro e4
      have h := h e4
      have v := v e4
      exact jcJx4a65c_grow_92f84_20 hQ _ _ _ _ h v
    · have h := h.2
      have v := v.2
      intro e5
      have h := h e5
      have v := v e5
      obtain ⟨a16, e6, h⟩ := h
      refine ⟨a16, e6, ?_⟩
      have v := v a16 e6
      refine ⟨?_, ?_⟩
      · have h := h.1
        have v := v.1
        intro e7
        have h := h e7
        have v := v e7
        intro v19 e8
        have h := h v19 e8
        have v := v v19 e8
        refine ⟨h.1, ?_⟩
        have v := v h.1
        have h := h.2
        refine ⟨h.1, ?_⟩
        have v := v h.1
        have h := h.2
        refine ⟨h.1, ?_⟩
        have v := v h.1
        have h := h.2
        intro p20 e12 e13
        have h := h p20 e12 e13
        have v := v p20 e12 e13
        intro σ26 e14
        have h := h σ26 e14
        have v := v σ26 e14
        refine ⟨h.1, ?_⟩
        have v := v h.1
        have h := h.2
        intro σ29 e16
        have h := h σ29 e16
        have v := v σ29 e16
        exact hQ _ _ h v
      · have h := h.2
        have v := v.2
        intro e17
        have h := h e17
        have v := v e17
        exact jcJx4a65c_grow_92f84_20 hQ _ _ _ _ h v
  · have h := h.2
    have v := v.2
    intro e18
    have h := h e18
    have v := v e18
    refine ⟨h.1, ?_⟩
    have v := v h.1
    have h := h.2
    intro v33 e20
    have h := h v33 e20
    have v := v v33 e20
    refine ⟨?_, ?_⟩
    · have h := h.1
      have v := v.1
      intro e21
      have h := h e21
      have v := v e21
      exact jcJx4a65c_grow_92f84_20 hQ _ _ _ _ h v
    · have h := h.2
      have v := v.2
      intro e22
      have h := h e22
      have v := v e22
      obtain ⟨a35, e23, h⟩ := h
      refine ⟨a35, e23, ?_⟩
      have v := v a35 e23
      refine ⟨?_, ?_⟩
      · have h := h.1
        have v := v.1
        intro e24
        have h := h e24
        have v := v e24
        intro v38 e25
        have h := h v38 e25
        have v := v v38 e25
        refine ⟨h.1, ?_⟩
        have v := v h.1
        have h := h.2
        refine ⟨h.1, ?_⟩
        have v := v h.1
        have h := h.2
        refine ⟨h.1, ?_⟩
        have v := v h.1
        have h := h.2
        intro p39 e29 e30
        have h := h p39 e29 e30
        have v := v p39 e29 e30
        intro σ45 e31
        have h := h σ45 e31
        have v := v σ45 e31
        refine ⟨h.1, ?_⟩
        have v := v h.1
        have h := h.2
        intro σ48 e33
        have h := h σ48 e33
        have v := v σ48 e33
        exact hQ _ _ h v
      · have h := h.2
        have v := v.2
        intro e34
        have h := h e34
        have v := v e34
        exact jcJx4a65c_grow_92f84_20 hQ _ _ _ _ h v
set_option maxRecDepth 100000 in
set_option maxHeartbeats 4000000 in
theorem jaJx4a65c_grow_92f84 {Q Q' : Nat → kx_S → Prop} (hQ : ∀ y0 y1, Q y0 y1 → Q' y0 y1) : ∀ (l0 : Nat) (l1 : Int32) (σ : kx_S), wJx4a65c_grow_92f84 l0 l1 σ Q → vJx4a65c_grow_92f84 l0 l1 σ Q' := by
  intro l0 l1 σ h
  unfold wJx4a65c_grow_92f84 at h
  unfold vJx4a65c_grow_92f84
  intro e1
  have h := h.2
  obtain ⟨a12', e2, h⟩ := h
  intro a12 e3
  have x9 : a12' = a12 := Option.some.inj (e2.symm.trans e3)
  rw [x9] at h
  refine ⟨?_, ?_⟩
  · have h := h.1
    intro e4
    have h := h e4
    refine ⟨?_, ?_⟩
    · have h := h.1
      intro e5
      have h := h e5
      exact jaJx4a65c_grow_92f84_20 hQ _ _ _ _ h
    · have h := h.2
      intro e6
      have h := h e6
      obtain ⟨a16', e7, h⟩ := h
      intro a16 e8
      have x9 : a16' = a16 := Option.some.inj (e7.symm.trans e8)
      rw [x9] at h
      refine ⟨?_, ?_⟩
      · have h := h.1
        intro e9
        have h := h e9
        intro v19 e10
        have h := h v19 e10
        intro e11
        have h := h.2
        intro e12
        have h := h.2
        intro e13
        have h := h.2
        intro p20 e14 e15
        have h := h p20 e14 e15
        intro σ26 e16
        have h := h σ26 e16
        intro e17
        have h := h.2
        intro σ29 e18
        have h := h σ29 e18
        exact hQ _ _ h
      · have h := h.2
        intro e19
        have h := h e19
        exact jaJx4a65c_grow_92f84_20 hQ _ _ _ _ h
  · have h := h.2
    intro e20
    have h := h e20
    intro e21
    have h := h.2
    intro v33 e22
    have h := h v33 e22
    refine ⟨?_, ?_⟩
    · have h := h.1
      intro e23
      have h := h e23
      exact jaJx4a65c_grow_92f84_20 hQ _ _ _ _ h
    · have h := h.2
      intro e24
      have h := h e24
      obtain ⟨a35', e25, h⟩ := h
      intro a35 e26
      have x9 : a35' = a35 := Option.some.inj (e25.symm.trans e26)
      rw [x9] at h
      refine ⟨?_, ?_⟩
      · have h := h.1
        intro e27
        have h := h e27
        intro v38 e28
        have h := h v38 e28
        intro e29
        have h := h.2
        intro e30
        have h := h.2
        intro e31
        have h := h.2
        intro p39 e32 e33
        have h := h p39 e32 e33
        intro σ45 e34
        have h := h σ45 e34
        intro e35
        have h := h.2
        intro σ48 e36
        have h := h σ48 e36
        exact hQ _ _ h
      · have h := h.2
        intro e37
        have h := h e37
        exact jaJx4a65c_grow_92f84_20 hQ _ _ _ _ h
set_option maxRecDepth 100000 in
set_option maxHeartbeats 4000000 in
theorem jfJx4a65c_grow_92f84 {I : kx_S → Prop} (W : fw_ I [17, 1003, 1222]) {Q : Nat → kx_S → Prop} (hQ : ∀ y0 y1, I y1 → Q y0 y1) : ∀ (l0 : Nat) (l1 : Int32) (σ : kx_S), I σ → vJx4a65c_grow_92f84 l0 l1 σ Q := by
  intro l0 l1 σ i
  unfold vJx4a65c_grow_92f84
  intro e1
  intro a12 e2
  refine ⟨?_, ?_⟩
  · intro e3
    refine ⟨?_, ?_⟩
    · intro e4
      exact jfJx4a65c_grow_92f84_20 (I := I) (fw_sub W (by decide)) hQ _ _ _ _ i
    · intro e5
      intro a16 e6
      refine ⟨?_, ?_⟩
      · intro e7
        intro v19 e8
        intro e9
        intro e10
        intro e11
        intro p20 e12 e13
        intro σ26 e14
        have iσ26 : I σ26 := by rw [e14]; exact (W _ i).2.2.2.2.2.2.2 22 (by decide) _ e12 _
        intro e15
        intro σ29 e16
        have iσ29 : I σ29 := by rw [e16]; exact ((W _ iσ26).1 17 (by decide)).2.1 _ _
        exact hQ _ _ iσ29
      · intro e17
        exact jfJx4a65c_grow_92f84_20 (I := I) (fw_sub W (by decide)) hQ _ _ _ _ i
  · intro e18
    intro e19
    intro v33 e20
    refine ⟨?_, ?_⟩
    · intro e21
      exact jfJx4a65c_grow_92f84_20 (I := I) (fw_sub W (by decide)) hQ _ _ _ _ i
    · intro e22
      intro a35 e23
      refine ⟨?_, ?_⟩
      · intro e24
        intro v38 e25
        intro e26
        intro e27
        intro e28
        intro p39 e29 e30
        intro σ45 e31
        have iσ45 : I σ45 := by rw [e31]; exact (W _ i).2.2.2.2.2.2.2 22 (by decide) _ e29 _
        intro e32
        intro σ48 e33
        have iσ48 : I σ48 := by rw [e33]; exact ((W _ iσ45).1 17 (by decide)).2.1 _ _
        exact hQ _ _ iσ48
      · intro e34
        exact jfJx4a65c_grow_92f84_20 (I := I) (fw_sub W (by decide)) hQ _ _ _ _ i
def vJx4a65c_grow_d5877 (l0 : Nat) (σ : kx_S) (Q : Nat → kx_S → Prop) : Prop := xt σ l0 = 1 → vJx4a65c_grow_92f84 l0 ((xi σ 18 l0) + 1) σ (fun b3 σ2 => Q b3 σ2)
set_option maxRecDepth 100000 in
set_option maxHeartbeats 4000000 in
theorem jcJx4a65c_grow_d5877 {Q Q' Q'' : Nat → kx_S → Prop} (hQ : ∀ y0 y1, Q y0 y1 → Q' y0 y1 → Q'' y0 y1) : ∀ (l0 : Nat) (σ : kx_S), wJx4a65c_grow_d5877 l0 σ Q → vJx4a65c_grow_d5877 l0 σ Q' → wJx4a65c_grow_d5877 l0 σ Q'' := by
  intro l0 σ h v
  unfold wJx4a65c_grow_d5877 at h
  unfold vJx4a65c_grow_d5877 at v
  unfold wJx4a65c_grow_d5877
  refine ⟨h.1, ?_⟩
  have v := v h.1
  have h := h.2
  refine jcJx4a65c_grow_92f84 ?_ _ _ _ h v
  intro b3 σ2 h v
  exact hQ _ _ h v
set_option maxRecDepth 100000 in
set_option maxHeartbeats 4000000 in
theorem jaJx4a65c_grow_d5877 {Q Q' : Nat → kx_S → Prop} (hQ : ∀ y0 y1, Q y0 y1 → Q' y0 y1) : ∀ (l0 : Nat) (σ : kx_S), wJx4a65c_grow_d5877 l0 σ Q → vJx4a65c_grow_d5877 l0 σ Q' := by
  intro l0 σ h
  unfold wJx4a65c_grow_d5877 at h
  unfold vJx4a65c_grow_d5877
  intro e1
  have h := h.2
  refine jaJx4a65c_grow_92f84 ?_ _ _ _ h
  intro b3 σ2 h
  exact hQ _ _ h
set_option maxRecDepth 100000 in
set_option maxHeartbeats 4000000 in
theorem jfJx4a65c_grow_d5877 {I : kx_S → Prop} (W : fw_ I [17, 1003, 1222]) {Q : Nat → kx_S → Prop} (hQ : ∀ y0 y1, I y1 → Q y0 y1) : ∀ (l0 : Nat) (σ : kx_S), I σ → vJx4a65c_grow_d5877 l0 σ Q := by
  intro l0 σ i
  unfold vJx4a65c_grow_d5877
  intro e1
  refine jfJx4a65c_grow_92f84 (I := I) (fw_sub W (by decide)) ?_ _ _ _ i
  intro b3 σ2 iσ2
  exact hQ _ _ iσ2
def vJx4a65c_add_72be8_11 (Q : kx_S → Prop) (l0 : Nat) (l1 : Nat) (l2 : Nat) (l3 : Int32) (σ : kx_S) : Prop := xt σ l2 = 22 → vp_in l3 (xn σ l2) → kx_el (xt σ l1) → ∀ σ4, σ4 = xsar σ l2 l3.toNatClampNeg (some l1) → xt σ4 l0 = 1 → ∀ σ7, σ7 = xsi σ4 18 l0 (l3 + 1) → Q σ7
set_option maxRecDepth 100000 in
set_option maxHeartbeats 4000000 in
theorem jcJx4a65c_add_72be8_11 {Q Q' Q'' : kx_S → Prop} (hQ : ∀ y0, Q y0 → Q' y0 → Q'' y0) : ∀ (l0 : Nat) (l1 : Nat) (l2 : Nat) (l3 : Int32) (σ : kx_S), wJx4a65c_add_72be8_11 Q l0 l1 l2 l3 σ → vJx4a65c_add_72be8_11 Q' l0 l1 l2 l3 σ → wJx4a65c_add_72be8_11 Q'' l0 l1 l2 l3 σ := by
  intro l0 l1 l2 l3 σ h v
  unfold wJx4a65c_add_72be8_11 at h
  unfold vJx4a65c_add_72be8_11 at v
  unfold wJx4a65c_add_72be8_11
  refine ⟨h.1, ?_⟩
  have v := v h.1
  have h := h.2
  refine ⟨h.1, ?_⟩
  have v := v h.1
  have h := h.2
  refine ⟨h.1, ?_⟩
  have v := v h.1
  have h := h.2
  intro σ4 e4
  have h := h σ4 e4
  have v := v σ4 e4
  refine ⟨h.1, ?_⟩
  have v := v h.1
  have h := h.2
  intro σ7 e6
  have h := h σ7 e6
  have v := v σ7 e6
  exact hQ _ h v
set_option maxRecDepth 100000 in
set_option maxHeartbeats 4000000 in
theorem jaJx4a65c_add_72be8_11 {Q Q' : kx_S → Prop} (hQ : ∀ y0, Q y0 → Q' y0) : ∀ (l0 : Nat) (l1 : Nat) (l2 : Nat) (l3 : Int32) (σ : kx_S), wJx4a65c_add_72be8_11 Q l0 l1 l2 l3 σ → vJx4a65c_add_72be8_11 Q' l0 l1 l2 l3 σ := by
  intro l0 l1 l2 l3 σ h
  unfold wJx4a65c_add_72be8_11 at h
  unfold vJx4a65c_add_72be8_11
  intro e1
  have h := h.2
  intro e2
  have h := h.2
  intro e3
  have h := h.2
  intro σ4 e4
  have h := h σ4 e4
  intro e5
  have h := h.2
  intro σ7 e6
  have h := h σ7 e6
  exact hQ _ h
set_option maxRecDepth 100000 in
set_option maxHeartbeats 4000000 in
theorem jfJx4a65c_add_72be8_11 {I : kx_S → Prop} (W : fw_ I [18, 1003]) {Q : kx_S → Prop} (hQ : ∀ y0, I y0 → Q y0) : ∀ (l0 : Nat) (l1 : Nat) (l2 : Nat) (l3 : Int32) (σ : kx_S), I σ → vJx4a65c_add_72be8_11 Q l0 l1 l2 l3 σ := by
  intro l0 l1 l2 l3 σ i
  unfold vJx4a65c_add_72be8_11
  intro e1
  intro e2
  intro e3
  intro σ4 e4
  have iσ4 : I σ4 := by rw [e4]; exact ((W _ i).2.2.2.1 (by decide)).1 _ _ _
  intro e5
  intro σ7 e6
  have iσ7 : I σ7 := by rw [e6]; exact ((W _ iσ4).1 18 (by decide)).1 _ _
  exact hQ _ iσ7
def vJx4a65c_add_72be8 (l0 : Nat) (l1 : Nat) (l2 : Nat) (l3 : Int32) (σ : kx_S) (Q : kx_S → Prop) : Prop := ((l2 = xz σ → ((¬ l3 = 0 → vJx4a65c_add_72be8_11 Q l0 l1 l2 l3 σ) ∧ (l3 = 0 → xt σ l0 = 1 → vJx4a65c_grow_d5877 l0 σ (fun b13 σ12 => vJx4a65c_add_72be8_11 Q l0 l1 b13 l3 σ12)))) ∧ (¬ (l2 = xz σ) → xt σ l2 = 22 → ((¬ l3 = (nI (xn σ l2)) → vJx4a65c_add_72be8_11 Q l0 l1 l2 l3 σ) ∧ (l3 = (nI (xn σ l2)) → xt σ l0 = 1 → vJx4a65c_grow_d5877 l0 σ (fun b18 σ17 => vJx4a65c_add_72be8_11 Q l0 l1 b18 l3 σ17)))))
set_option maxRecDepth 100000 in
set_option maxHeartbeats 4000000 in
theorem jcJx4a65c_add_72be8 {Q Q' Q'' : kx_S → Prop} (hQ : ∀ y0, Q y0 → Q' y0 → Q'' y0) : ∀ (l0 : Nat) (l1 : Nat) (l2 : Nat) (l3 : Int32) (σ : kx_S), wJx4a65c_add_72be8 l0 l1 l2 l3 σ Q → vJx4a65c_add_72be8 l0 l1 l2 l3 σ Q' → wJx4a65c_add_72be8 l0 l1 l2 l3 σ Q'' := by
  intro l0 l1 l2 l3 σ h v
  unfold wJx4a65c_add_72be8 at h
  unfold vJx4a65c_add_72be8 at v
  unfold wJx4a65c_add_72be8
  refine ⟨?_, ?_⟩
  · have h := h.1
    have v := v.1
    intro e1
    have h := h e1
    have v := v e1
    refine ⟨?_, ?_⟩
    · have h := h.1
      have v := v.1
      intro e2
      have h := h e2
      have v := v e2
      exact jcJx4a65c_add_72be8_11 hQ _ _ _ _ _ h v
    · have h := h.2
      have v := v.2
      intro e3
      have h := h e3
      have v := v e3
      refine ⟨h.1, ?_⟩
      have v := v h.1
      have h := h.2
      refine jcJx4a65c_grow_d5877 ?_ _ _ h v
      intro b13 σ12 h v
      exact jcJx4a65c_add_72be8_11 hQ _ _ _ _ _ h v
  · have h := h.2
    have v := v.2
    intro e5
    have h := h e5
    have v := v e5
    refine ⟨h.1, ?_⟩
    have v := v h.1
    have h := h.2
    refine ⟨?_, ?_⟩
    · have h := h.1
      have v := v.1
      intro e7
      have h := h e7
      have v := v e7
      exact jcJx4a65c_add_72be8_11 hQ _ _ _ _ _ h v
    · have h := h.2
      have v := v.2
      intro e8
      have h := h e8
      have v := v e8
      refine ⟨h.1, ?_⟩
      have v := v h.1
      have h := h.2
      refine jcJx4a65c_grow_d5877 ?_ _ _ h v
      intro b18 σ17 h v
      exact jcJx4a65c_add_72be8_11 hQ _ _ _ _ _ h v
set_option maxRecDepth 100000 in
set_option maxHeartbeats 4000000 in
theorem jaJx4a65c_add_72be8 {Q Q' : kx_S → Prop} (hQ : ∀ y0, Q y0 → Q' y0) : ∀ (l0 : Nat) (l1 : Nat) (l2 : Nat) (l3 : Int32) (σ : kx_S), wJx4a65c_add_72be8 l0 l1 l2 l3 σ Q → vJx4a65c_add_72be8 l0 l1 l2 l3 σ Q' := by
  intro l0 l1 l2 l3 σ h
  unfold wJx4a65c_add_72be8 at h
  unfold vJx4a65c_add_72be8
  refine ⟨?_, ?_⟩
  · have h := h.1
    intro e1
    have h := h e1
    refine ⟨?_, ?_⟩
    · have h := h.1
      intro e2
      have h := h e2
      exact jaJx4a65c_add_72be8_11 hQ _ _ _ _ _ h
    · have h := h.2
      intro e3
      have h := h e3
      intro e4
      have h := h.2
      refine jaJx4a65c_grow_d5877 ?_ _ _ h
      intro b13 σ12 h
      exact jaJx4a65c_add_72be8_11 hQ _ _ _ _ _ h
  · have h := h.2
    intro e5
    have h := h e5
    intro e6
    have h := h.2
    refine ⟨?_, ?_⟩
    · have h := h.1
      intro e7
      have h := h e7
      exact jaJx4a65c_add_72be8_11 hQ _ _ _ _ _ h
    · have h := h.2
      intro e8
      have h := h e8
      intro e9
      have h := h.2
      refine jaJx4a65c_grow_d5877 ?_ _ _ h
      intro b18 σ17 h
      exact jaJx4a65c_add_72be8_11 hQ _ _ _ _ _ h
set_option maxRecDepth 100000 in
set_option maxHeartbeats 4000000 in
theorem jfJx4a65c_add_72be8 {I : kx_S → Prop} (W : fw_ I [17, 18, 1003, 1222]) {Q : kx_S → Prop} (hQ : ∀ y0, I y0 → Q y0) : ∀ (l0 : Nat) (l1 : Nat) (l2 : Nat) (l3 : Int32) (σ : kx_S), I σ → vJx4a65c_add_72be8 l0 l1 l2 l3 σ Q := by
  intro l0 l1 l2 l3 σ i
  unfold vJx4a65c_add_72be8
  refine ⟨?_, ?_⟩
  · intro e1
    refine ⟨?_, ?_⟩
    · intro e2
      exact jfJx4a65c_add_72be8_11 (I := I) (fw_sub W (by decide)) hQ _ _ _ _ _ i
    · intro e3
      intro e4
      refine jfJx4a65c_grow_d5877 (I := I) (fw_sub W (by decide)) ?_ _ _ i
      intro b13 σ12 iσ12
      exact jfJx4a65c_add_72be8_11 (I := I) (fw_sub W (by decide)) hQ _ _ _ _ _ iσ12
  · intro e5
    intro e6
    refine ⟨?_, ?_⟩
    · intro e7
      exact jfJx4a65c_add_72be8_11 (I := I) (fw_sub W (by decide)) hQ _ _ _ _ _ i
    · intro e8
      intro e9
      refine jfJx4a65c_grow_d5877 (I := I) (fw_sub W (by decide)) ?_ _ _ i
      intro b18 σ17 iσ17
      exact jfJx4a65c_add_72be8_11 (I := I) (fw_sub W (by decide)) hQ _ _ _ _ _ iσ17
def vJx4a65c_add_9ea2d (l0 : Nat) (l1 : Nat) (σ : kx_S) (Q : Int32 → kx_S → Prop) : Prop := xt σ l0 = 1 → ∀ σ2, σ2 = xsi σ 16 l0 ((xi σ 16 l0) + 1) → ∀ a4, xr σ2 17 l0 = some a4 → vJx4a65c_add_72be8 l0 l1 a4 (xi σ2 18 l0) σ2 (fun σ6 => Q 1 σ6)
set_option maxRecDepth 100000 in
set_option maxHeartbeats 4000000 in
theorem jcJx4a65c_add_9ea2d {Q Q' Q'' : Int32 → kx_S → Prop} (hQ : ∀ y0 y1, Q y0 y1 → Q' y0 y1 → Q'' y0 y1) : ∀ (l0 : Nat) (l1 : Nat) (σ : kx_S), wJx4a65c_add_9ea2d l0 l1 σ Q → vJx4a65c_add_9ea2d l0 l1 σ Q' → wJx4a65c_add_9ea2d l0 l1 σ Q'' := by
  intro l0 l1 σ h v
  unfold wJx4a65c_add_9ea2d at h
  unfold vJx4a65c_add_9ea2d at v
  unfold wJx4a65c_add_9ea2d
  refine ⟨h.1, ?_⟩
  have v := v h.1
  have h := h.2
  intro σ2 e2
  have h := h σ2 e2
  have v := v σ2 e2
  obtain ⟨a4, e3, h⟩ := h
  refine ⟨a4, e3, ?_⟩
  have v := v a4 e3
  refine jcJx4a65c_add_72be8 ?_ _ _ _ _ _ h v
  intro σ6 h v
  exact hQ _ _ h v
set_option maxRecDepth 100000 in
set_option maxHeartbeats 4000000 in
theorem jaJx4a65c_add_9ea2d {Q Q' : Int32 → kx_S → Prop} (hQ : ∀ y0 y1, Q y0 y1 → Q' y0 y1) : ∀ (l0 : Nat) (l1 : Nat) (σ : kx_S), wJx4a65c_add_9ea2d l0 l1 σ Q → vJx4a65c_add_9ea2d l0 l1 σ Q' := by
  intro l0 l1 σ h
  unfold wJx4a65c_add_9ea2d at h
  unfold vJx4a65c_add_9ea2d
  intro e1
  have h := h.2
  intro σ2 e2
  have h := h σ2 e2
  obtain ⟨a4', e3, h⟩ := h
  intro a4 e4
  have x9 : a4' = a4 := Option.some.inj (e3.symm.trans e4)
  rw [x9] at h
  refine jaJx4a65c_add_72be8 ?_ _ _ _ _ _ h
  intro σ6 h
  exact hQ _ _ h
set_option maxRecDepth 100000 in
set_option maxHeartbeats 4000000 in
theorem jfJx4a65c_add_9ea2d {I : kx_S → Prop} (W : fw_ I [16, 17, 18, 1003, 1222]) {Q : Int32 → kx_S → Prop} (hQ : ∀ y0 y1, I y1 → Q y0 y1) : ∀ (l0 : Nat) (l1 : Nat) (σ : kx_S), I σ → vJx4a65c_add_9ea2d l0 l1 σ Q := by
  intro l0 l1 σ i
  unfold vJx4a65c_add_9ea2d
  intro e1
  intro σ2 e2
  have iσ2 : I σ2 := by rw [e2]; exact ((W _ i).1 16 (by decide)).1 _ _
  intro a4 e3
  refine jfJx4a65c_add_72be8 (I := I) (fw_sub W (by decide)) ?_ _ _ _ _ _ iσ2
  intro σ6 iσ6
  exact hQ _ _ iσ6
def vJx4a65c_fastRemove_b59b0_34 (Q : kx_S → Prop) (l0 : Nat) (l1 : Nat) (l3 : Int32) (σ : kx_S) : Prop := xt σ l0 = 1 → ∀ σ2, σ2 = xsi σ 18 l0 l3 → xt σ2 l1 = 22 → vp_in l3 (xn σ2 l1) → ∀ σ6, σ6 = xsar σ2 l1 l3.toNatClampNeg none → Q σ6
set_option maxRecDepth 100000 in
set_option maxHeartbeats 4000000 in
theorem jcJx4a65c_fastRemove_b59b0_34 {Q Q' Q'' : kx_S → Prop} (hQ : ∀ y0, Q y0 → Q' y0 → Q'' y0) : ∀ (l0 : Nat) (l1 : Nat) (l3 : Int32) (σ : kx_S), wJx4a65c_fastRemove_b59b0_34 Q l0 l1 l3 σ → vJx4a65c_fastRemove_b59b0_34 Q' l0 l1 l3 σ → wJx4a65c_fastRemove_b59b0_34 Q'' l0 l1 l3 σ := by
  intro l0 l1 l3 σ h v
  unfold wJx4a65c_fastRemove_b59b0_34 at h
  unfold vJx4a65c_fastRemove_b59b0_34 at v
  unfold wJx4a65c_fastRemove_b59b0_34
  refine ⟨h.1, ?_⟩
  have v := v h.1
  have h := h.2
  intro σ2 e2
  have h := h σ2 e2
  have v := v σ2 e2
  refine ⟨h.1, ?_⟩
  have v := v h.1
  have h := h.2
  refine ⟨h.1, ?_⟩
  have v := v h.1
  have h := h.2
  intro σ6 e5
  have h := h σ6 e5
  have v := v σ6 e5
  exact hQ _ h v
set_option maxRecDepth 100000 in
set_option maxHeartbeats 4000000 in
theorem jaJx4a65c_fastRemove_b59b0_34 {Q Q' : kx_S → Prop} (hQ : ∀ y0, Q y0 → Q' y0) : ∀ (l0 : Nat) (l1 : Nat) (l3 : Int32) (σ : kx_S), wJx4a65c_fastRemove_b59b0_34 Q l0 l1 l3 σ → vJx4a65c_fastRemove_b59b0_34 Q' l0 l1 l3 σ := by
  intro l0 l1 l3 σ h
  unfold wJx4a65c_fastRemove_b59b0_34 at h
  unfold vJx4a65c_fastRemove_b59b0_34
  intro e1
  have h := h.2
  intro σ2 e2
  have h := h σ2 e2
  intro e3
  have h := h.2
  intro e4
  have h := h.2
  intro σ6 e5
  have h := h σ6 e5
  exact hQ _ h
set_option maxRecDepth 100000 in
set_option maxHeartbeats 4000000 in
theorem jfJx4a65c_fastRemove_b59b0_34 {I : kx_S → Prop} (W : fw_ I [18, 1003]) {Q : kx_S → Prop} (hQ : ∀ y0, I y0 → Q y0) : ∀ (l0 : Nat) (l1 : Nat) (l3 : Int32) (σ : kx_S), I σ → vJx4a65c_fastRemove_b59b0_34 Q l0 l1 l3 σ := by
  intro l0 l1 l3 σ i
  unfold vJx4a65c_fastRemove_b59b0_34
  intro e1
  intro σ2 e2
  have iσ2 : I σ2 := by rw [e2]; exact ((W _ i).1 18 (by decide)).1 _ _
  intro e3
  intro e4
  intro σ6 e5
  have iσ6 : I σ6 := by rw [e5]; exact ((W _ iσ2).2.2.2.1 (by decide)).1 _ _ _
  exact hQ _ iσ6
def vJx4a65c_fastRemove_b59b0 (l0 : Nat) (l1 : Nat) (l2 : Int32) (σ : kx_S) (Q : kx_S → Prop) : Prop := xt σ l0 = 1 → ∀ σ10, σ10 = xsi σ 16 l0 ((xi σ 16 l0) + 1) → ∀ v12, v12 = (xi σ10 18 l0) - 1 → ((((xi σ10 18 l0) - 1) ≤ l2 → vJx4a65c_fastRemove_b59b0_34 Q l0 l1 v12 σ10) ∧ (¬ (((xi σ10 18 l0) - 1) ≤ l2) → xt σ10 l1 = 22 → ¬ (l2 + 1) < 0 → ¬ l2 < 0 → ¬ (v12 - l2) < 0 → (l2 + 1).toNatClampNeg + (v12 - l2).toNatClampNeg ≤ xn σ10 l1 → l2.toNatClampNeg + (v12 - l2).toNatClampNeg ≤ xn σ10 l1 → (∀ i : Nat, i < (v12 - l2).toNatClampNeg → ∀ y : Nat, xar σ10 l1 ((l2 + 1).toNatClampNeg + i) = some y → kx_el (xt σ10 y)) → ∀ σ21, σ21 = xsAR σ10 l1 (va_cpy (xar σ10 l1) (xar σ10 l1) (l2 + 1).toNatClampNeg l2.toNatClampNeg (v12 - l2).toNatClampNeg) → vJx4a65c_fastRemove_b59b0_34 Q l0 l1 v12 σ21))
set_option maxRecDepth 100000 in
set_option maxHeartbeats 4000000 in
theorem jcJx4a65c_fastRemove_b59b0 {Q Q' Q'' : kx_S → Prop} (hQ : ∀ y0, Q y0 → Q' y0 → Q'' y0) : ∀ (l0 : Nat) (l1 : Nat) (l2 : Int32) (σ : kx_S), wJx4a65c_fastRemove_b59b0 l0 l1 l2 σ Q → vJx4a65c_fastRemove_b59b0 l0 l1 l2 σ Q' → wJx4a65c_fastRemove_b59b0 l0 l1 l2 σ Q'' := by
  intro l0 l1 l2 σ h v
  unfold wJx4a65c_fastRemove_b59b0 at h
  unfold vJx4a65c_fastRemove_b59b0 at v
  unfold wJx4a65c_fastRemove_b59b0
  refine ⟨h.1, ?_⟩
  have v := v h.1
  have h := h.2
  intro σ10 e2
  have h := h σ10 e2
  have v := v σ10 e2
  intro v12 e3
  have h := h v12 e3
  have v := v v12 e3
  refine ⟨?_, ?_⟩
  · have h := h.1
    have v := v.1
    intro e4
    have h := h e4
    have v := v e4
    exact jcJx4a65c_fastRemove_b59b0_34 hQ _ _ _ _ h v
  · have h := h.2
    have v := v.2
    intro e5
    have h := h e5
    have v := v e5
    refine ⟨h.1, ?_⟩
    have v := v h.1
    have h := h.2
    refine ⟨h.1, ?_⟩
    have v := v h.1
    have h := h.2
    refine ⟨h.1, ?_⟩
    have v := v h.1
    have h := h.2
    refine ⟨h.1, ?_⟩
    have v := v h.1
    have h := h.2
    refine ⟨h.1, ?_⟩
    have v := v h.1
    have h := h.2
    refine ⟨h.1, ?_⟩
    have v := v h.1
    have h := h.2
    refine ⟨h.1, ?_⟩
    have v := v h.1
    have h := h.2
    intro σ21 e13
    have h := h σ21 e13
    have v := v σ21 e13
    exact jcJx4a65c_fastRemove_b59b0_34 hQ _ _ _ _ h v
set_option maxRecDepth 100000 in
set_option maxHeartbeats 4000000 in
theorem jaJx4a65c_fastRemove_b59b0 {Q Q' : kx_S → Prop} (hQ : ∀ y0, Q y0 → Q' y0) : ∀ (l0 : Nat) (l1 : Nat) (l2 : Int32) (σ : kx_S), wJx4a65c_fastRemove_b59b0 l0 l1 l2 σ Q → vJx4a65c_fastRemove_b59b0 l0 l1 l2 σ Q' := by
  intro l0 l1 l2 σ h
  unfold wJx4a65c_fastRemove_b59b0 at h
  unfold vJx4a65c_fastRemove_b59b0
  intro e1
  have h := h.2
  intro σ10 e2
  have h := h σ10 e2
  intro v12 e3
  have h := h v12 e3
  refine ⟨?_, ?_⟩
  · have h := h.1
    intro e4
    have h := h e4
    exact jaJx4a65c_fastRemove_b59b0_34 hQ _ _ _ _ h
  · have h := h.2
    intro e5
    have h := h e5
    intro e6
    have h := h.2
    intro e7
    have h := h.2
    intro e8
    have h := h.2
    intro e9
    have h := h.2
    intro e10
    have h := h.2
    intro e11
    have h := h.2
    intro e12
    have h := h.2
    intro σ21 e13
    have h := h σ21 e13
    exact jaJx4a65c_fastRemove_b59b0_34 hQ _ _ _ _ h
set_option maxRecDepth 100000 in
set_option maxHeartbeats 4000000 in
theorem jfJx4a65c_fastRemove_b59b0 {I : kx_S → Prop} (W : fw_ I [16, 18, 1003]) {Q : kx_S → Prop} (hQ : ∀ y0, I y0 → Q y0) : ∀ (l0 : Nat) (l1 : Nat) (l2 : Int32) (σ : kx_S), I σ → vJx4a65c_fastRemove_b59b0 l0 l1 l2 σ Q := by
  intro l0 l1 l2 σ i
  unfold vJx4a65c_fastRemove_b59b0
  intro e1
  intro σ10 e2
  have iσ10 : I σ10 := by rw [e2]; exact ((W _ i).1 16 (by decide)).1 _ _
  intro v12 e3
  refine ⟨?_, ?_⟩
  · intro e4
    exact jfJx4a65c_fastRemove_b59b0_34 (I := I) (fw_sub W (by decide)) hQ _ _ _ _ iσ10
  · intro e5
    intro e6
    intro e7
    intro e8
    intro e9
    intro e10
    intro e11
    intro e12
    intro σ21 e13
    have iσ21 : I σ21 := by rw [e13]; exact ((W _ iσ10).2.2.2.1 (by decide)).2 _ _
    exact jfJx4a65c_fastRemove_b59b0_34 (I := I) (fw_sub W (by decide)) hQ _ _ _ _ iσ21
def vJx4a65c_remove_915e3 (l0 : Nat) (l1 : Int32) (σ : kx_S) (Q : Option Nat → kx_S → Prop) : Prop := xt σ l0 = 1 → vJ15_checkIndex_7cf53 l1 (xi σ 18 l0) σ (fun r3 σ2 => xt σ2 l0 = 1 → ∀ a5, xr σ2 17 l0 = some a5 → xt σ2 a5 = 22 → vp_in l1 (xn σ2 a5) → ∀ q9, q9 = xar σ2 a5 l1.toNatClampNeg → vJx4a65c_fastRemove_b59b0 l0 a5 l1 σ2 (fun σ10 => Q q9 σ10))
set_option maxRecDepth 100000 in
set_option maxHeartbeats 4000000 in
theorem jcJx4a65c_remove_915e3 {Q Q' Q'' : Option Nat → kx_S → Prop} (hQ : ∀ y0 y1, Q y0 y1 → Q' y0 y1 → Q'' y0 y1) : ∀ (l0 : Nat) (l1 : Int32) (σ : kx_S), wJx4a65c_remove_915e3 l0 l1 σ Q → vJx4a65c_remove_915e3 l0 l1 σ Q' → wJx4a65c_remove_915e3 l0 l1 σ Q'' := by
  intro l0 l1 σ h v
  unfold wJx4a65c_remove_915e3 at h
  unfold vJx4a65c_remove_915e3 at v
  unfold wJx4a65c_remove_915e3
  refine ⟨h.1, ?_⟩
  have v := v h.1
  have h := h.2
  refine jcJ15_checkIndex_7cf53 ?_ _ _ _ h v
  intro r3 σ2 h v
  refine ⟨h.1, ?_⟩
  have v := v h.1
  have h := h.2
  obtain ⟨a5, e3, h⟩ := h
  refine ⟨a5, e3, ?_⟩
  have v := v a5 e3
  refine ⟨h.1, ?_⟩
  have v := v h.1
  have h := h.2
  refine ⟨h.1, ?_⟩
  have v := v h.1
  have h := h.2
  intro q9 e6
  have h := h q9 e6
  have v := v q9 e6
  refine jcJx4a65c_fastRemove_b59b0 ?_ _ _ _ _ h v
  intro σ10 h v
  exact hQ _ _ h v
set_option maxRecDepth 100000 in
set_option maxHeartbeats 4000000 in
theorem jaJx4a65c_remove_915e3 {Q Q' : Option Nat → kx_S → Prop} (hQ : ∀ y0 y1, Q y0 y1 → Q' y0 y1) : ∀ (l0 : Nat) (l1 : Int32) (σ : kx_S), wJx4a65c_remove_915e3 l0 l1 σ Q → vJx4a65c_remove_915e3 l0 l1 σ Q' := by
  intro l0 l1 σ h
  unfold wJx4a65c_remove_915e3 at h
  unfold vJx4a65c_remove_915e3
  intro e1
  have h := h.2
  refine jaJ15_checkIndex_7cf53 ?_ _ _ _ h
  intro r3 σ2 h
  intro e2
  have h := h.2
  obtain ⟨a5', e3, h⟩ := h
  intro a5 e4
  have x9 : a5' = a5 := Option.some.inj (e3.symm.trans e4)
  rw [x9] at h
  intro e5
  have h := h.2
  intro e6
  have h := h.2
  intro q9 e7
  have h := h q9 e7
  refine jaJx4a65c_fastRemove_b59b0 ?_ _ _ _ _ h
  intro σ10 h
  exact hQ _ _ h
set_option maxRecDepth 100000 in
set_option maxHeartbeats 4000000 in
theorem jfJx4a65c_remove_915e3 {I : kx_S → Prop} (W : fw_ I [16, 18, 1003]) {Q : Option Nat → kx_S → Prop} (hQ : ∀ y0 y1, I y1 → Q y0 y1) : ∀ (l0 : Nat) (l1 : Int32) (σ : kx_S), I σ → vJx4a65c_remove_915e3 l0 l1 σ Q := by
  intro l0 l1 σ i
  unfold vJx4a65c_remove_915e3
  intro e1
  refine jfJ15_checkIndex_7cf53 (I := I) (fw_sub W (by decide)) ?_ _ _ _ i
  intro r3 σ2 iσ2
  intro e2
  intro a5 e3
  intro e4
  intro e5
  intro q9 e6
  refine jfJx4a65c_fastRemove_b59b0 (I := I) (fw_sub W (by decide)) ?_ _ _ _ _ iσ2
  intro σ10 iσ10
  exact hQ _ _ iσ10
def vJ7_copyOf_59c91 (l0 : Nat) (l1 : Int32) (σ : kx_S) (Q : Nat → kx_S → Prop) : Prop := xt σ l0 = 20 → ((¬ l1 = (nI (xn σ l0)) → xc σ < kx_N → ¬ l1 < 0 → l1.toNatClampNeg ≤ 600 → ∀ p3, xt σ p3 = 0 → p3 ≠ xz σ → ∀ σ9, σ9 = xnewA σ p3 20 l1.toNatClampNeg → xt σ9 l0 = 20 → ∀ v12, v12 = (if l1 < (nI (xn σ9 l0)) then l1 else (nI (xn σ9 l0))) → ¬ (0 : Int32) < 0 → ¬ (0 : Int32) < 0 → ¬ v12 < 0 → (Int32.toNatClampNeg 0) + v12.toNatClampNeg ≤ xn σ9 l0 → (Int32.toNatClampNeg 0) + v12.toNatClampNeg ≤ xn σ9 p3 → ∀ σ18, σ18 = xsAI σ9 p3 (va_cpy (xai σ9 l0) (xai σ9 p3) (Int32.toNatClampNeg 0) (Int32.toNatClampNeg 0) v12.toNatClampNeg) → Q p3 σ18) ∧ (l1 = (nI (xn σ l0)) → xc σ < kx_N → xn σ l0 ≤ 600 → ∀ p23, xt σ p23 = 0 → p23 ≠ xz σ → ∀ σ26, σ26 = xsAI (xnewA σ p23 20 (xn σ l0)) p23 (xai σ l0) → Q p23 σ26))
set_option maxRecDepth 100000 in
set_option maxHeartbeats 4000000 in
theorem jcJ7_copyOf_59c91 {Q Q' Q'' : Nat → kx_S → Prop} (hQ : ∀ y0 y1, Q y0 y1 → Q' y0 y1 → Q'' y0 y1) : ∀ (l0 : Nat) (l1 : Int32) (σ : kx_S), wJ7_copyOf_59c91 l0 l1 σ Q → vJ7_copyOf_59c91 l0 l1 σ Q' → wJ7_copyOf_59c91 l0 l1 σ Q'' := by
  intro l0 l1 σ h v
  unfold wJ7_copyOf_59c91 at h
  unfold vJ7_copyOf_59c91 at v
  unfold wJ7_copyOf_59c91
  refine ⟨h.1, ?_⟩
  have v := v h.1
  have h := h.2
  refine ⟨?_, ?_⟩
  · have h := h.1
    have v := v.1
    intro e2
    have h := h e2
    have v := v e2
    refine ⟨h.1, ?_⟩
    have v := v h.1
    have h := h.2
    refine ⟨h.1, ?_⟩
    have v := v h.1
    have h := h.2
    refine ⟨h.1, ?_⟩
    have v := v h.1
    have h := h.2
    intro p3 e6 e7
    have h := h p3 e6 e7
    have v := v p3 e6 e7
    intro σ9 e8
    have h := h σ9 e8
    have v := v σ9 e8
    refine ⟨h.1, ?_⟩
    have v := v h.1
    have h := h.2
    intro v12 e10
    have h := h v12 e10
    have v := v v12 e10
    refine ⟨h.1, ?_⟩
    have v := v h.1
    have h := h.2
    refine ⟨h.1, ?_⟩
    have v := v h.1
    have h := h.2
    refine ⟨h.1, ?_⟩
    have v := v h.1
    have h := h.2
    refine ⟨h.1, ?_⟩
    have v := v h.1
    have h := h.2
    refine ⟨h.1, ?_⟩
    have v := v h.1
    have h := h.2
    intro σ18 e16
    have h := h σ18 e16
    have v := v σ18 e16
    exact hQ _ _ h v
  · have h := h.2
    have v := v.2
    intro e17
    have h := h e17
    have v := v e17
    refine ⟨h.1, ?_⟩
    have v := v h.1
    have h := h.2
    refine ⟨h.1, ?_⟩
    have v := v h.1
    have h := h.2
    intro p23 e20 e21
    have h := h p23 e20 e21
    have v := v p23 e20 e21
    intro σ26 e22
    have h := h σ26 e22
    have v := v σ26 e22
    exact hQ _ _ h v
set_option maxRecDepth 100000 in
set_option maxHeartbeats 4000000 in
theorem jaJ7_copyOf_59c91 {Q Q' : Nat → kx_S → Prop} (hQ : ∀ y0 y1, Q y0 y1 → Q' y0 y1) : ∀ (l0 : Nat) (l1 : Int32) (σ : kx_S), wJ7_copyOf_59c91 l0 l1 σ Q → vJ7_copyOf_59c91 l0 l1 σ Q' := by
  intro l0 l1 σ h
  unfold wJ7_copyOf_59c91 at h
  unfold vJ7_copyOf_59c91
  intro e1
  have h := h.2
  refine ⟨?_, ?_⟩
  · have h := h.1
    intro e2
    have h := h e2
    intro e3
    have h := h.2
    intro e4
    have h := h.2
    intro e5
    have h := h.2
    intro p3 e6 e7
    have h := h p3 e6 e7
    intro σ9 e8
    have h := h σ9 e8
    intro e9
    have h := h.2
    intro v12 e10
    have h := h v12 e10
    intro e11
    have h := h.2
    intro e12
    have h := h.2
    intro e13
    have h := h.2
    intro e14
    have h := h.2
    intro e15
    have h := h.2
    intro σ18 e16
    have h := h σ18 e16
    exact hQ _ _ h
  · have h := h.2
    intro e17
    have h := h e17
    intro e18
    have h := h.2
    intro e19
    have h := h.2
    intro p23 e20 e21
    have h := h p23 e20 e21
    intro σ26 e22
    have h := h σ26 e22
    exact hQ _ _ h
set_option maxRecDepth 100000 in
set_option maxHeartbeats 4000000 in
theorem jfJ7_copyOf_59c91 {I : kx_S → Prop} (W : fw_ I [1004, 1220]) {Q : Nat → kx_S → Prop} (hQ : ∀ y0 y1, I y1 → Q y0 y1) : ∀ (l0 : Nat) (l1 : Int32) (σ : kx_S), I σ → vJ7_copyOf_59c91 l0 l1 σ Q := by
  intro l0 l1 σ i
  unfold vJ7_copyOf_59c91
  intro e1
  refine ⟨?_, ?_⟩
  · intro e2
    intro e3
    intro e4
    intro e5
    intro p3 e6 e7
    intro σ9 e8
    have iσ9 : I σ9 := by rw [e8]; exact (W _ i).2.2.2.2.2.2.2 20 (by decide) _ e6 _
    intro e9
    intro v12 e10
    intro e11
    intro e12
    intro e13
    intro e14
    intro e15
    intro σ18 e16
    have iσ18 : I σ18 := by rw [e16]; exact (W _ iσ9).2.2.2.2.1 (by decide) _ _
    exact hQ _ _ iσ18
  · intro e17
    intro e18
    intro e19
    intro p23 e20 e21
    intro σ26 e22
    have iσ26 : I σ26 := by rw [e22]; exact (W _ ((W _ i).2.2.2.2.2.2.2 20 (by decide) _ e20 _)).2.2.2.2.1 (by decide) _ _
    exact hQ _ _ iσ26
end
section
def vX0_init (l0 : Nat) (σ : kx_S) (Q : kx_S → Prop) : Prop := xc σ < kx_N → ∀ p2, xt σ p2 = 0 → p2 ≠ xz σ → ∀ σ5, σ5 = xnew σ p2 1 → vJx4a65c_init_da8c8 p2 σ5 (fun σ7 => xt σ7 l0 = 2 → ∀ σ9, σ9 = xsr σ7 32 l0 (some p2) → xc σ9 < kx_N → ∀ p12, xt σ9 p12 = 0 → p12 ≠ xz σ9 → ∀ σ15, σ15 = xnew σ9 p12 1 → vJx4a65c_init_da8c8 p12 σ15 (fun σ17 => xt σ17 l0 = 2 → ∀ σ19, σ19 = xsr σ17 33 l0 (some p12) → Q σ19))
set_option maxRecDepth 100000 in
set_option maxHeartbeats 4000000 in
theorem jcX0_init {Q Q' Q'' : kx_S → Prop} (hQ : ∀ y0, Q y0 → Q' y0 → Q'' y0) : ∀ (l0 : Nat) (σ : kx_S), wX0_init l0 σ Q → vX0_init l0 σ Q' → wX0_init l0 σ Q'' := by
  intro l0 σ h v
  unfold wX0_init at h
  unfold vX0_init at v
  unfold wX0_init
  refine ⟨h.1, ?_⟩
  have v := v h.1
  have h := h.2
  intro p2 e2 e3
  have h := h p2 e2 e3
  have v := v p2 e2 e3
  intro σ5 e4
  have h := h σ5 e4
  have v := v σ5 e4
  refine jcJx4a65c_init_da8c8 ?_ _ _ h v
  intro σ7 h v
  refine ⟨h.1, ?_⟩
  have v := v h.1
  have h := h.2
  intro σ9 e6
  have h := h σ9 e6
  have v := v σ9 e6
  refine ⟨h.1, ?_⟩
  have v := v h.1
  have h := h.2
  intro p12 e8 e9
  have h := h p12 e8 e9
  have v := v p12 e8 e9
  intro σ15 e10
  have h := h σ15 e10
  have v := v σ15 e10
  refine jcJx4a65c_init_da8c8 ?_ _ _ h v
  intro σ17 h v
  refine ⟨h.1, ?_⟩
  have v := v h.1
  have h := h.2
  intro σ19 e12
  have h := h σ19 e12
  have v := v σ19 e12
  exact hQ _ h v
set_option maxRecDepth 100000 in
set_option maxHeartbeats 4000000 in
theorem jaX0_init {Q Q' : kx_S → Prop} (hQ : ∀ y0, Q y0 → Q' y0) : ∀ (l0 : Nat) (σ : kx_S), wX0_init l0 σ Q → vX0_init l0 σ Q' := by
  intro l0 σ h
  unfold wX0_init at h
  unfold vX0_init
  intro e1
  have h := h.2
  intro p2 e2 e3
  have h := h p2 e2 e3
  intro σ5 e4
  have h := h σ5 e4
  refine jaJx4a65c_init_da8c8 ?_ _ _ h
  intro σ7 h
  intro e5
  have h := h.2
  intro σ9 e6
  have h := h σ9 e6
  intro e7
  have h := h.2
  intro p12 e8 e9
  have h := h p12 e8 e9
  intro σ15 e10
  have h := h σ15 e10
  refine jaJx4a65c_init_da8c8 ?_ _ _ h
  intro σ17 h
  intro e11
  have h := h.2
  intro σ19 e12
  have h := h σ19 e12
  exact hQ _ h
set_option maxRecDepth 100000 in
set_option maxHeartbeats 4000000 in
theorem jfX0_init {I : kx_S → Prop} (W : fw_ I [16, 17, 32, 33, 1101]) {Q : kx_S → Prop} (hQ : ∀ y0, I y0 → Q y0) : ∀ (l0 : Nat) (σ : kx_S), I σ → vX0_init l0 σ Q := by
  intro l0 σ i
  unfold vX0_init
  intro e1
  intro p2 e2 e3
  intro σ5 e4
  have iσ5 : I σ5 := by rw [e4]; exact (W _ i).2.2.2.2.2.2.1 1 (by decide) _ e2
  refine jfJx4a65c_init_da8c8 (I := I) (fw_sub W (by decide)) ?_ _ _ iσ5
  intro σ7 iσ7
  intro e5
  intro σ9 e6
  have iσ9 : I σ9 := by rw [e6]; exact ((W _ iσ7).1 32 (by decide)).2.1 _ _
  intro e7
  intro p12 e8 e9
  intro σ15 e10
  have iσ15 : I σ15 := by rw [e10]; exact (W _ iσ9).2.2.2.2.2.2.1 1 (by decide) _ e8
  refine jfJx4a65c_init_da8c8 (I := I) (fw_sub W (by decide)) ?_ _ _ iσ15
  intro σ17 iσ17
  intro e11
  intro σ19 e12
  have iσ19 : I σ19 := by rw [e12]; exact ((W _ iσ17).1 33 (by decide)).2.1 _ _
  exact hQ _ iσ19
def vX0_catches (l0 : Nat) (l1 : Int32) (σ : kx_S) (Q : Int32 → kx_S → Prop) : Prop := xt σ l0 = 2 → ((¬ (((xi σ 34 l0) >>> (l1 &&& 31)) &&& 1) = 1 → Q 0 σ) ∧ ((((xi σ 34 l0) >>> (l1 &&& 31)) &&& 1) = 1 → Q 1 σ))
set_option maxRecDepth 100000 in
set_option maxHeartbeats 4000000 in
theorem jcX0_catches {Q Q' Q'' : Int32 → kx_S → Prop} (hQ : ∀ y0 y1, Q y0 y1 → Q' y0 y1 → Q'' y0 y1) : ∀ (l0 : Nat) (l1 : Int32) (σ : kx_S), wX0_catches l0 l1 σ Q → vX0_catches l0 l1 σ Q' → wX0_catches l0 l1 σ Q'' := by
  intro l0 l1 σ h v
  unfold wX0_catches at h
  unfold vX0_catches at v
  unfold wX0_catches
  refine ⟨h.1, ?_⟩
  have v := v h.1
  have h := h.2
  refine ⟨?_, ?_⟩
  · have h := h.1
    have v := v.1
    intro e2
    have h := h e2
    have v := v e2
    exact hQ _ _ h v
  · have h := h.2
    have v := v.2
    intro e3
    have h := h e3
    have v := v e3
    exact hQ _ _ h v
set_option maxRecDepth 100000 in
set_option maxHeartbeats 4000000 in
theorem jaX0_catches {Q Q' : Int32 → kx_S → Prop} (hQ : ∀ y0 y1, Q y0 y1 → Q' y0 y1) : ∀ (l0 : Nat) (l1 : Int32) (σ : kx_S), wX0_catches l0 l1 σ Q → vX0_catches l0 l1 σ Q' := by
  intro l0 l1 σ h
  unfold wX0_catches at h
  unfold vX0_catches
  intro e1
  have h := h.2
  refine ⟨?_, ?_⟩
  · have h := h.1
    intro e2
    have h := h e2
    exact hQ _ _ h
  · have h := h.2
    intro e3
    have h := h e3
    exact hQ _ _ h
set_option maxRecDepth 100000 in
set_option maxHeartbeats 4000000 in
theorem jfX0_catches {I : kx_S → Prop} (W : fw_ I []) {Q : Int32 → kx_S → Prop} (hQ : ∀ y0 y1, I y1 → Q y0 y1) : ∀ (l0 : Nat) (l1 : Int32) (σ : kx_S), I σ → vX0_catches l0 l1 σ Q := by
  intro l0 l1 σ i
  unfold vX0_catches
  intro e1
  refine ⟨?_, ?_⟩
  · intro e2
    exact hQ _ _ i
  · intro e3
    exact hQ _ _ i
def vX0_takeFirstFor_64 (k2 : Nat → Nat → Int32 → kx_S → Prop) (Q : Option Nat → kx_S → Prop) (l0 : Nat) (l1 : Nat) (l2 : Int32) (σ : kx_S) : Prop := ∀ v1 : Int32, v1 = l2 + 1 → k2 l0 l1 v1 σ
set_option maxRecDepth 100000 in
set_option maxHeartbeats 4000000 in
theorem jcX0_takeFirstFor_64 {k2 k2' k2'' : Nat → Nat → Int32 → kx_S → Prop} (hk2 : ∀ y0 y1 y2 y3, k2 y0 y1 y2 y3 → k2' y0 y1 y2 y3 → k2'' y0 y1 y2 y3) {Q Q' Q'' : Option Nat → kx_S → Prop} (hQ : ∀ y0 y1, Q y0 y1 → Q' y0 y1 → Q'' y0 y1) : ∀ (l0 : Nat) (l1 : Nat) (l2 : Int32) (σ : kx_S), wX0_takeFirstFor_64 k2 Q l0 l1 l2 σ → vX0_takeFirstFor_64 k2' Q' l0 l1 l2 σ → wX0_takeFirstFor_64 k2'' Q'' l0 l1 l2 σ := by
  intro l0 l1 l2 σ h v
  unfold wX0_takeFirstFor_64 at h
  unfold vX0_takeFirstFor_64 at v
  unfold wX0_takeFirstFor_64
  intro v1 e1
  have h := h v1 e1
  have v := v v1 e1
  exact hk2 _ _ _ _ h v
set_option maxRecDepth 100000 in
set_option maxHeartbeats 4000000 in
theorem jaX0_takeFirstFor_64 {k2 k2' : Nat → Nat → Int32 → kx_S → Prop} (hk2 : ∀ y0 y1 y2 y3, k2 y0 y1 y2 y3 → k2' y0 y1 y2 y3) {Q Q' : Option Nat → kx_S → Prop} (hQ : ∀ y0 y1, Q y0 y1 → Q' y0 y1) : ∀ (l0 : Nat) (l1 : Nat) (l2 : Int32) (σ : kx_S), wX0_takeFirstFor_64 k2 Q l0 l1 l2 σ → vX0_takeFirstFor_64 k2' Q' l0 l1 l2 σ := by
  intro l0 l1 l2 σ h
  unfold wX0_takeFirstFor_64 at h
  unfold vX0_takeFirstFor_64
  intro v1 e1
  have h := h v1 e1
  exact hk2 _ _ _ _ h
set_option maxRecDepth 100000 in
set_option maxHeartbeats 4000000 in
theorem jfX0_takeFirstFor_64 {I : kx_S → Prop} (W : fw_ I []) {k2 : Nat → Nat → Int32 → kx_S → Prop} (hk2 : ∀ y0 y1 y2 y3, I y3 → k2 y0 y1 y2 y3) {Q : Option Nat → kx_S → Prop} (hQ : ∀ y0 y1, I y1 → Q y0 y1) : ∀ (l0 : Nat) (l1 : Nat) (l2 : Int32) (σ : kx_S), I σ → vX0_takeFirstFor_64 k2 Q l0 l1 l2 σ := by
  intro l0 l1 l2 σ i
  unfold vX0_takeFirstFor_64
  intro v1 e1
  exact hk2 _ _ _ _ i
def vX0_takeFirstFor_51 (Q : Option Nat → kx_S → Prop) (l0 : Nat) (l2 : Int32) (l3 : Nat) (σ : kx_S) : Prop := xt σ l0 = 2 → ∀ a3, xr σ 32 l0 = some a3 → xt σ a3 = 1 → vJx4a65c_remove_915e3 a3 l2 σ (fun q6 σ5 => Q (some l3) σ5)
set_option maxRecDepth 100000 in
set_option maxHeartbeats 4000000 in
theorem jcX0_takeFirstFor_51 {Q Q' Q'' : Option Nat → kx_S → Prop} (hQ : ∀ y0 y1, Q y0 y1 → Q' y0 y1 → Q'' y0 y1) : ∀ (l0 : Nat) (l2 : Int32) (l3 : Nat) (σ : kx_S), wX0_takeFirstFor_51 Q l0 l2 l3 σ → vX0_takeFirstFor_51 Q' l0 l2 l3 σ → wX0_takeFirstFor_51 Q'' l0 l2 l3 σ := by
  intro l0 l2 l3 σ h v
  unfold wX0_takeFirstFor_51 at h
  unfold vX0_takeFirstFor_51 at v
  unfold wX0_takeFirstFor_51
  refine ⟨h.1, ?_⟩
  have v := v h.1
  have h := h.2
  obtain ⟨a3, e2, h⟩ := h
  refine ⟨a3, e2, ?_⟩
  have v := v a3 e2
  refine ⟨h.1, ?_⟩
  have v := v h.1
  have h := h.2
  refine jcJx4a65c_remove_915e3 ?_ _ _ _ h v
  intro q6 σ5 h v
  exact hQ _ _ h v
set_option maxRecDepth 100000 in
set_option maxHeartbeats 4000000 in
theorem jaX0_takeFirstFor_51 {Q Q' : Option Nat → kx_S → Prop} (hQ : ∀ y0 y1, Q y0 y1 → Q' y0 y1) : ∀ (l0 : Nat) (l2 : Int32) (l3 : Nat) (σ : kx_S), wX0_takeFirstFor_51 Q l0 l2 l3 σ → vX0_takeFirstFor_51 Q' l0 l2 l3 σ := by
  intro l0 l2 l3 σ h
  unfold wX0_takeFirstFor_51 at h
  unfold vX0_takeFirstFor_51
  intro e1
  have h := h.2
  obtain ⟨a3', e2, h⟩ := h
  intro a3 e3
  have x9 : a3' = a3 := Option.some.inj (e2.symm.trans e3)
  rw [x9] at h
  intro e4
  have h := h.2
  refine jaJx4a65c_remove_915e3 ?_ _ _ _ h
  intro q6 σ5 h
  exact hQ _ _ h
set_option maxRecDepth 100000 in
set_option maxHeartbeats 4000000 in
theorem jfX0_takeFirstFor_51 {I : kx_S → Prop} (W : fw_ I [16, 18, 1003]) {Q : Option Nat → kx_S → Prop} (hQ : ∀ y0 y1, I y1 → Q y0 y1) : ∀ (l0 : Nat) (l2 : Int32) (l3 : Nat) (σ : kx_S), I σ → vX0_takeFirstFor_51 Q l0 l2 l3 σ := by
  intro l0 l2 l3 σ i
  unfold vX0_takeFirstFor_51
  intro e1
  intro a3 e2
  intro e3
  refine jfJx4a65c_remove_915e3 (I := I) (fw_sub W (by decide)) ?_ _ _ _ i
  intro q6 σ5 iσ5
  exact hQ _ _ iσ5
def vX0_takeFirstFor_2 (k51 : Nat → Int32 → Nat → kx_S → Prop) (Q : Option Nat → kx_S → Prop) : Nat → Nat → Nat → Int32 → kx_S → Prop
  | 0, _, _, _, _ => True
  | n + 1, l0, l1, l2, σ => xt σ l0 = 2 → ∀ a9, xr σ 32 l0 = some a9 → xt σ a9 = 1 → vJx4a65c_size_8abf5 a9 σ (fun r12 σ11 => ((r12 ≤ l2 → Q none σ11) ∧ (¬ (r12 ≤ l2) → xt σ11 l0 = 2 → ∀ a16, xr σ11 32 l0 = some a16 → xt σ11 a16 = 1 → vJx4a65c_get_915e3 a16 l2 σ11 (fun q19 σ18 => ∀ a21, q19 = some a21 → xt σ18 a21 = 8 → xt σ18 l1 = 9 → ((¬ (xi σ18 129 a21) = (xi σ18 144 l1) → vX0_takeFirstFor_64 (vX0_takeFirstFor_2 k51 Q n) Q l0 l1 l2 σ18) ∧ ((xi σ18 129 a21) = (xi σ18 144 l1) → (((xi σ18 130 a21) < (xi σ18 145 l1) → vX0_takeFirstFor_64 (vX0_takeFirstFor_2 k51 Q n) Q l0 l1 l2 σ18) ∧ (¬ ((xi σ18 130 a21) < (xi σ18 145 l1)) → k51 l0 l2 a21 σ18))))))))
set_option maxRecDepth 100000 in
set_option maxHeartbeats 4000000 in
theorem jcX0_takeFirstFor_2 {k51 k51' k51'' : Nat → Int32 → Nat → kx_S → Prop} (hk51 : ∀ y0 y1 y2 y3, k51 y0 y1 y2 y3 → k51' y0 y1 y2 y3 → k51'' y0 y1 y2 y3) {Q Q' Q'' : Option Nat → kx_S → Prop} (hQ : ∀ y0 y1, Q y0 y1 → Q' y0 y1 → Q'' y0 y1) : ∀ (n : Nat) (l0 : Nat) (l1 : Nat) (l2 : Int32) (σ : kx_S), wX0_takeFirstFor_2 k51 Q n l0 l1 l2 σ → vX0_takeFirstFor_2 k51' Q' n l0 l1 l2 σ → wX0_takeFirstFor_2 k51'' Q'' n l0 l1 l2 σ := by
  intro n
  induction n with
  | zero => intro l0 l1 l2 σ h; exact h.elim
  | succ n ih =>
    intro l0 l1 l2 σ h v
    unfold wX0_takeFirstFor_2 at h
    unfold vX0_takeFirstFor_2 at v
    unfold wX0_takeFirstFor_2
    refine ⟨h.1, ?_⟩
    have v := v h.1
    have h := h.2
    obtain ⟨a9, e2, h⟩ := h
    refine ⟨a9, e2, ?_⟩
    have v := v a9 e2
    refine ⟨h.1, ?_⟩
    have v := v h.1
    have h := h.2
    refine jcJx4a65c_size_8abf5 ?_ _ _ h v
    intro r12 σ11 h v
    refine ⟨?_, ?_⟩
    · have h := h.1
      have v := v.1
      intro e4
      have h := h e4
      have v := v e4
      exact hQ _ _ h v
    · have h := h.2
      have v := v.2
      intro e5
      have h := h e5
      have v := v e5
      refine ⟨h.1, ?_⟩
      have v := v h.1
      have h := h.2
      obtain ⟨a16, e7, h⟩ := h
      refine ⟨a16, e7, ?_⟩
      have v := v a16 e7
      refine ⟨h.1, ?_⟩
      have v := v h.1
      have h := h.2
      refine jcJx4a65c_get_915e3 ?_ _ _ _ h v
      intro q19 σ18 h v
      obtain ⟨a21, e9, h⟩ := h
      refine ⟨a21, e9, ?_⟩
      have v := v a21 e9
      refine ⟨h.1, ?_⟩
      have v := v h.1
      have h := h.2
      refine ⟨h.1, ?_⟩
      have v := v h.1
      have h := h.2
      refine ⟨?_, ?_⟩
      · have h := h.1
        have v := v.1
        intro e12
        have h := h e12
        have v := v e12
        exact jcX0_takeFirstFor_64 (k2 := wX0_takeFirstFor_2 k51 Q n) (k2' := vX0_takeFirstFor_2 k51' Q' n) (k2'' := wX0_takeFirstFor_2 k51'' Q'' n) (fun _ _ _ _ h v => ih _ _ _ _ h v) hQ _ _ _ _ h v
      · have h := h.2
        have v := v.2
        intro e13
        have h := h e13
        have v := v e13
        refine ⟨?_, ?_⟩
        · have h := h.1
          have v := v.1
          intro e14
          have h := h e14
          have v := v e14
          exact jcX0_takeFirstFor_64 (k2 := wX0_takeFirstFor_2 k51 Q n) (k2' := vX0_takeFirstFor_2 k51' Q' n) (k2'' := wX0_takeFirstFor_2 k51'' Q'' n) (fun _ _ _ _ h v => ih _ _ _ _ h v) hQ _ _ _ _ h v
        · have h := h.2
          have v := v.2
          intro e15
          have h := h e15
          have v := v e15
          exact hk51 _ _ _ _ h v
set_option maxRecDepth 100000 in
set_option maxHeartbeats 4000000 in
theorem jaX0_takeFirstFor_2 {k51 k51' : Nat → Int32 → Nat → kx_S → Prop} (hk51 : ∀ y0 y1 y2 y3, k51 y0 y1 y2 y3 → k51' y0 y1 y2 y3) {Q Q' : Option Nat → kx_S → Prop} (hQ : ∀ y0 y1, Q y0 y1 → Q' y0 y1) : ∀ (n m : Nat) (l0 : Nat) (l1 : Nat) (l2 : Int32) (σ : kx_S), wX0_takeFirstFor_2 k51 Q n l0 l1 l2 σ → vX0_takeFirstFor_2 k51' Q' m l0 l1 l2 σ := by
  intro n
  induction n with
  | zero => intro m l0 l1 l2 σ h; exact h.elim
  | succ n ih =>
    intro m l0 l1 l2 σ h
    cases m with
    | zero => exact trivial
    | succ m =>
      unfold wX0_takeFirstFor_2 at h
      unfold vX0_takeFirstFor_2
      intro e1
      have h := h.2
      obtain ⟨a9', e2, h⟩ := h
      intro a9 e3
      have x9 : a9' = a9 := Option.some.inj (e2.symm.trans e3)
      rw [x9] at h
      intro e4
      have h := h.2
      refine jaJx4a65c_size_8abf5 ?_ _ _ h
      intro r12 σ11 h
      refine ⟨?_, ?_⟩
      · have h := h.1
        intro e5
        have h := h e5
        exact hQ _ _ h
      · have h := h.2
        intro e6
        have h := h e6
        intro e7
        have h := h.2
        obtain ⟨a16', e8, h⟩ := h
        intro a16 e9
        have x9 : a16' = a16 := Option.some.inj (e8.symm.trans e9)
        rw [x9] at h
        intro e10
        have h := h.2
        refine jaJx4a65c_get_915e3 ?_ _ _ _ h
        intro q19 σ18 h
        obtain ⟨a21', e11, h⟩ := h
        intro a21 e12
        have x9 : a21' = a21 := Option.some.inj (e11.symm.trans e12)
        rw [x9] at h
        intro e13
        have h := h.2
        intro e14
        have h := h.2
        refine ⟨?_, ?_⟩
        · have h := h.1
          intro e15
          have h := h e15
          exact jaX0_takeFirstFor_64 (k2 := wX0_takeFirstFor_2 k51 Q n) (k2' := vX0_takeFirstFor_2 k51' Q' m) (fun _ _ _ _ h => ih m _ _ _ _ h) hQ _ _ _ _ h
        · have h := h.2
          intro e16
          have h := h e16
          refine ⟨?_, ?_⟩
          · have h := h.1
            intro e17
            have h := h e17
            exact jaX0_takeFirstFor_64 (k2 := wX0_takeFirstFor_2 k51 Q n) (k2' := vX0_takeFirstFor_2 k51' Q' m) (fun _ _ _ _ h => ih m _ _ _ _ h) hQ _ _ _ _ h
          · have h := h.2
            intro e18
            have h := h e18
            exact hk51 _ _ _ _ h
set_option maxRecDepth 100000 in
set_option maxHeartbeats 4000000 in
theorem jfX0_takeFirstFor_2 {I : kx_S → Prop} (W : fw_ I []) {k51 : Nat → Int32 → Nat → kx_S → Prop} (hk51 : ∀ y0 y1 y2 y3, I y3 → k51 y0 y1 y2 y3) {Q : Option Nat → kx_S → Prop} (hQ : ∀ y0 y1, I y1 → Q y0 y1) : ∀ (n : Nat) (l0 : Nat) (l1 : Nat) (l2 : Int32) (σ : kx_S), I σ → vX0_takeFirstFor_2 k51 Q n l0 l1 l2 σ := by
  intro n
  induction n with
  | zero => intro l0 l1 l2 σ i; exact trivial
  | succ n ih =>
    intro l0 l1 l2 σ i
    unfold vX0_takeFirstFor_2
    intro e1
    intro a9 e2
    intro e3
    refine jfJx4a65c_size_8abf5 (I := I) (fw_sub W (by decide)) ?_ _ _ i
    intro r12 σ11 iσ11
    refine ⟨?_, ?_⟩
    · intro e4
      exact hQ _ _ iσ11
    · intro e5
      intro e6
      intro a16 e7
      intro e8
      refine jfJx4a65c_get_915e3 (I := I) (fw_sub W (by decide)) ?_ _ _ _ iσ11
      intro q19 σ18 iσ18
      intro a21 e9
      intro e10
      intro e11
      refine ⟨?_, ?_⟩
      · intro e12
        exact jfX0_takeFirstFor_64 (I := I) (fw_sub W (by decide)) (k2 := vX0_takeFirstFor_2 k51 Q n) (fun _ _ _ _ i => ih _ _ _ _ i) hQ _ _ _ _ iσ18
      · intro e13
        refine ⟨?_, ?_⟩
        · intro e14
          exact jfX0_takeFirstFor_64 (I := I) (fw_sub W (by decide)) (k2 := vX0_takeFirstFor_2 k51 Q n) (fun _ _ _ _ i => ih _ _ _ _ i) hQ _ _ _ _ iσ18
        · intro e15
          exact hk51 _ _ _ _ iσ18
def vX0_takeFirstFor (l0 : Nat) (l1 : Nat) (σ : kx_S) (Q : Option Nat → kx_S → Prop) : Prop := ∀ j, vX0_takeFirstFor_2 (vX0_takeFirstFor_51 Q) Q j l0 l1 0 σ
set_option maxRecDepth 100000 in
set_option maxHeartbeats 4000000 in
theorem jcX0_takeFirstFor {Q Q' Q'' : Option Nat → kx_S → Prop} (hQ : ∀ y0 y1, Q y0 y1 → Q' y0 y1 → Q'' y0 y1) : ∀ (l0 : Nat) (l1 : Nat) (σ : kx_S), wX0_takeFirstFor l0 l1 σ Q → vX0_takeFirstFor l0 l1 σ Q' → wX0_takeFirstFor l0 l1 σ Q'' := by
  intro l0 l1 σ h v
  unfold wX0_takeFirstFor at h
  unfold vX0_takeFirstFor at v
  unfold wX0_takeFirstFor
  obtain ⟨j, h⟩ := h
  refine ⟨j, ?_⟩
  have v := v j
  exact jcX0_takeFirstFor_2 (k51 := wX0_takeFirstFor_51 Q) (k51' := vX0_takeFirstFor_51 Q') (k51'' := wX0_takeFirstFor_51 Q'') (fun _ _ _ _ h v => jcX0_takeFirstFor_51 hQ _ _ _ _ h v) hQ _ _ _ _ _ h v
set_option maxRecDepth 100000 in
set_option maxHeartbeats 4000000 in
theorem jaX0_takeFirstFor {Q Q' : Option Nat → kx_S → Prop} (hQ : ∀ y0 y1, Q y0 y1 → Q' y0 y1) : ∀ (l0 : Nat) (l1 : Nat) (σ : kx_S), wX0_takeFirstFor l0 l1 σ Q → vX0_takeFirstFor l0 l1 σ Q' := by
  intro l0 l1 σ h
  unfold wX0_takeFirstFor at h
  unfold vX0_takeFirstFor
  obtain ⟨j, h⟩ := h
  intro j9
  exact jaX0_takeFirstFor_2 (k51 := wX0_takeFirstFor_51 Q) (k51' := vX0_takeFirstFor_51 Q') (fun _ _ _ _ h => jaX0_takeFirstFor_51 hQ _ _ _ _ h) hQ _ j9 _ _ _ _ h
set_option maxRecDepth 100000 in
set_option maxHeartbeats 4000000 in
theorem jfX0_takeFirstFor {I : kx_S → Prop} (W : fw_ I [16, 18, 1003]) {Q : Option Nat → kx_S → Prop} (hQ : ∀ y0 y1, I y1 → Q y0 y1) : ∀ (l0 : Nat) (l1 : Nat) (σ : kx_S), I σ → vX0_takeFirstFor l0 l1 σ Q := by
  intro l0 l1 σ i
  unfold vX0_takeFirstFor
  intro j
  exact jfX0_takeFirstFor_2 (I := I) (fw_sub W (by decide)) (k51 := vX0_takeFirstFor_51 Q) (fun _ _ _ _ i => jfX0_takeFirstFor_51 (I := I) (fw_sub W (by decide)) hQ _ _ _ _ i) hQ _ _ _ _ _ i
def vX1_init (l0 : Nat) (l1 : Int32) (σ : kx_S) (Q : kx_S → Prop) : Prop := xt σ l0 = 3 → ∀ σ2, σ2 = xsi σ 48 l0 l1 → xc σ2 < kx_N → ∀ p5, xt σ2 p5 = 0 → p5 ≠ xz σ2 → ∀ σ8, σ8 = xnew σ2 p5 1 → vJx4a65c_init_da8c8 p5 σ8 (fun σ10 => xt σ10 l0 = 3 → ∀ σ12, σ12 = xsr σ10 49 l0 (some p5) → Q σ12)
set_option maxRecDepth 100000 in
set_option maxHeartbeats 4000000 in
theorem jcX1_init {Q Q' Q'' : kx_S → Prop} (hQ : ∀ y0, Q y0 → Q' y0 → Q'' y0) : ∀ (l0 : Nat) (l1 : Int32) (σ : kx_S), wX1_init l0 l1 σ Q → vX1_init l0 l1 σ Q' → wX1_init l0 l1 σ Q'' := by
  intro l0 l1 σ h v
  unfold wX1_init at h
  unfold vX1_init at v
  unfold wX1_init
  refine ⟨h.1, ?_⟩
  have v := v h.1
  have h := h.2
  intro σ2 e2
  have h := h σ2 e2
  have v := v σ2 e2
  refine ⟨h.1, ?_⟩
  have v := v h.1
  have h := h.2
  intro p5 e4 e5
  have h := h p5 e4 e5
  have v := v p5 e4 e5
  intro σ8 e6
  have h := h σ8 e6
  have v := v σ8 e6
  refine jcJx4a65c_init_da8c8 ?_ _ _ h v
  intro σ10 h v
  refine ⟨h.1, ?_⟩
  have v := v h.1
  have h := h.2
  intro σ12 e8
  have h := h σ12 e8
  have v := v σ12 e8
  exact hQ _ h v
set_option maxRecDepth 100000 in
set_option maxHeartbeats 4000000 in
theorem jaX1_init {Q Q' : kx_S → Prop} (hQ : ∀ y0, Q y0 → Q' y0) : ∀ (l0 : Nat) (l1 : Int32) (σ : kx_S), wX1_init l0 l1 σ Q → vX1_init l0 l1 σ Q' := by
  intro l0 l1 σ h
  unfold wX1_init at h
  unfold vX1_init
  intro e1
  have h := h.2
  intro σ2 e2
  have h := h σ2 e2
  intro e3
  have h := h.2
  intro p5 e4 e5
  have h := h p5 e4 e5
  intro σ8 e6
  have h := h σ8 e6
  refine jaJx4a65c_init_da8c8 ?_ _ _ h
  intro σ10 h
  intro e7
  have h := h.2
  intro σ12 e8
  have h := h σ12 e8
  exact hQ _ h
set_option maxRecDepth 100000 in
set_option maxHeartbeats 4000000 in
theorem jfX1_init {I : kx_S → Prop} (W : fw_ I [16, 17, 48, 49, 1101]) {Q : kx_S → Prop} (hQ : ∀ y0, I y0 → Q y0) : ∀ (l0 : Nat) (l1 : Int32) (σ : kx_S), I σ → vX1_init l0 l1 σ Q := by
  intro l0 l1 σ i
  unfold vX1_init
  intro e1
  intro σ2 e2
  have iσ2 : I σ2 := by rw [e2]; exact ((W _ i).1 48 (by decide)).1 _ _
  intro e3
  intro p5 e4 e5
  intro σ8 e6
  have iσ8 : I σ8 := by rw [e6]; exact (W _ iσ2).2.2.2.2.2.2.1 1 (by decide) _ e4
  refine jfJx4a65c_init_da8c8 (I := I) (fw_sub W (by decide)) ?_ _ _ iσ8
  intro σ10 iσ10
  intro e7
  intro σ12 e8
  have iσ12 : I σ12 := by rw [e8]; exact ((W _ iσ10).1 49 (by decide)).2.1 _ _
  exact hQ _ iσ12
def vX1_ageLogs_70 (k12 : Nat → Int32 → kx_S → Prop) (Q : kx_S → Prop) (l0 : Nat) (l1 : Int32) (σ : kx_S) : Prop := ∀ v1 : Int32, v1 = l1 + (-1) → k12 l0 v1 σ
set_option maxRecDepth 100000 in
set_option maxHeartbeats 4000000 in
theorem jcX1_ageLogs_70 {k12 k12' k12'' : Nat → Int32 → kx_S → Prop} (hk12 : ∀ y0 y1 y2, k12 y0 y1 y2 → k12' y0 y1 y2 → k12'' y0 y1 y2) {Q Q' Q'' : kx_S → Prop} (hQ : ∀ y0, Q y0 → Q' y0 → Q'' y0) : ∀ (l0 : Nat) (l1 : Int32) (σ : kx_S), wX1_ageLogs_70 k12 Q l0 l1 σ → vX1_ageLogs_70 k12' Q' l0 l1 σ → wX1_ageLogs_70 k12'' Q'' l0 l1 σ := by
  intro l0 l1 σ h v
  unfold wX1_ageLogs_70 at h
  unfold vX1_ageLogs_70 at v
  unfold wX1_ageLogs_70
  intro v1 e1
  have h := h v1 e1
  have v := v v1 e1
  exact hk12 _ _ _ h v
set_option maxRecDepth 100000 in
set_option maxHeartbeats 4000000 in
theorem jaX1_ageLogs_70 {k12 k12' : Nat → Int32 → kx_S → Prop} (hk12 : ∀ y0 y1 y2, k12 y0 y1 y2 → k12' y0 y1 y2) {Q Q' : kx_S → Prop} (hQ : ∀ y0, Q y0 → Q' y0) : ∀ (l0 : Nat) (l1 : Int32) (σ : kx_S), wX1_ageLogs_70 k12 Q l0 l1 σ → vX1_ageLogs_70 k12' Q' l0 l1 σ := by
  intro l0 l1 σ h
  unfold wX1_ageLogs_70 at h
  unfold vX1_ageLogs_70
  intro v1 e1
  have h := h v1 e1
  exact hk12 _ _ _ h
set_option maxRecDepth 100000 in
set_option maxHeartbeats 4000000 in
theorem jfX1_ageLogs_70 {I : kx_S → Prop} (W : fw_ I []) {k12 : Nat → Int32 → kx_S → Prop} (hk12 : ∀ y0 y1 y2, I y2 → k12 y0 y1 y2) {Q : kx_S → Prop} (hQ : ∀ y0, I y0 → Q y0) : ∀ (l0 : Nat) (l1 : Int32) (σ : kx_S), I σ → vX1_ageLogs_70 k12 Q l0 l1 σ := by
  intro l0 l1 σ i
  unfold vX1_ageLogs_70
  intro v1 e1
  exact hk12 _ _ _ i
def vX1_ageLogs_12 (Q : kx_S → Prop) : Nat → Nat → Int32 → kx_S → Prop
  | 0, _, _, _ => True
  | n + 1, l0, l1, σ => ((l1 < 0 → Q σ) ∧ (¬ (l1 < 0) → xt σ l0 = 3 → ∀ a4, xr σ 49 l0 = some a4 → xt σ a4 = 1 → vJx4a65c_get_915e3 a4 l1 σ (fun q7 σ6 => ∀ a9, q7 = some a9 → xt σ6 a9 = 8 → ∀ σ12, σ12 = xsi σ6 135 a9 ((xi σ6 135 a9) + 1) → (((xi σ12 135 a9) < (24 * (xi σ12 130 a9)) → vX1_ageLogs_70 (vX1_ageLogs_12 Q n) Q l0 l1 σ12) ∧ (¬ ((xi σ12 135 a9) < (24 * (xi σ12 130 a9))) → ∀ σ15, σ15 = xsi σ12 132 a9 5 → xt σ15 l0 = 3 → ∀ a18, xr σ15 49 l0 = some a18 → xt σ15 a18 = 1 → vJx4a65c_remove_915e3 a18 l1 σ15 (fun q21 σ20 => vX1_ageLogs_70 (vX1_ageLogs_12 Q n) Q l0 l1 σ20))))))
set_option maxRecDepth 100000 in
set_option maxHeartbeats 4000000 in
theorem jcX1_ageLogs_12 {Q Q' Q'' : kx_S → Prop} (hQ : ∀ y0, Q y0 → Q' y0 → Q'' y0) : ∀ (n : Nat) (l0 : Nat) (l1 : Int32) (σ : kx_S), wX1_ageLogs_12 Q n l0 l1 σ → vX1_ageLogs_12 Q' n l0 l1 σ → wX1_ageLogs_12 Q'' n l0 l1 σ := by
  intro n
  induction n with
  | zero => intro l0 l1 σ h; exact h.elim
  | succ n ih =>
    intro l0 l1 σ h v
    unfold wX1_ageLogs_12 at h
    unfold vX1_ageLogs_12 at v
    unfold wX1_ageLogs_12
    refine ⟨?_, ?_⟩
    · have h := h.1
      have v := v.1
      intro e1
      have h := h e1
      have v := v e1
      exact hQ _ h v
    · have h := h.2
      have v := v.2
      intro e2
      have h := h e2
      have v := v e2
      refine ⟨h.1, ?_⟩
      have v := v h.1
      have h := h.2
      obtain ⟨a4, e4, h⟩ := h
      refine ⟨a4, e4, ?_⟩
      have v := v a4 e4
      refine ⟨h.1, ?_⟩
      have v := v h.1
      have h := h.2
      refine jcJx4a65c_get_915e3 ?_ _ _ _ h v
      intro q7 σ6 h v
      obtain ⟨a9, e6, h⟩ := h
      refine ⟨a9, e6, ?_⟩
      have v := v a9 e6
      refine ⟨h.1, ?_⟩
      have v := v h.1
      have h := h.2
      intro σ12 e8
      have h := h σ12 e8
      have v := v σ12 e8
      refine ⟨?_, ?_⟩
      · have h := h.1
        have v := v.1
        intro e9
        have h := h e9
        have v := v e9
        exact jcX1_ageLogs_70 (k12 := wX1_ageLogs_12 Q n) (k12' := vX1_ageLogs_12 Q' n) (k12'' := wX1_ageLogs_12 Q'' n) (fun _ _ _ h v => ih _ _ _ h v) hQ _ _ _ h v
      · have h := h.2
        have v := v.2
        intro e10
        have h := h e10
        have v := v e10
        intro σ15 e11
        have h := h σ15 e11
        have v := v σ15 e11
        refine ⟨h.1, ?_⟩
        have v := v h.1
        have h := h.2
        obtain ⟨a18, e13, h⟩ := h
        refine ⟨a18, e13, ?_⟩
        have v := v a18 e13
        refine ⟨h.1, ?_⟩
        have v := v h.1
        have h := h.2
        refine jcJx4a65c_remove_915e3 ?_ _ _ _ h v
        intro q21 σ20 h v
        exact jcX1_ageLogs_70 (k12 := wX1_ageLogs_12 Q n) (k12' := vX1_ageLogs_12 Q' n) (k12'' := wX1_ageLogs_12 Q'' n) (fun _ _ _ h v => ih _ _ _ h v) hQ _ _ _ h v
set_option maxRecDepth 100000 in
set_option maxHeartbeats 4000000 in
theorem jaX1_ageLogs_12 {Q Q' : kx_S → Prop} (hQ : ∀ y0, Q y0 → Q' y0) : ∀ (n m : Nat) (l0 : Nat) (l1 : Int32) (σ : kx_S), wX1_ageLogs_12 Q n l0 l1 σ → vX1_ageLogs_12 Q' m l0 l1 σ := by
  intro n
  induction n with
  | zero => intro m l0 l1 σ h; exact h.elim
  | succ n ih =>
    intro m l0 l1 σ h
    cases m with
    | zero => exact trivial
    | succ m =>
      unfold wX1_ageLogs_12 at h
      unfold vX1_ageLogs_12
      refine ⟨?_, ?_⟩
      · have h := h.1
        intro e1
        have h := h e1
        exact hQ _ h
      · have h := h.2
        intro e2
        have h := h e2
        intro e3
        have h := h.2
        obtain ⟨a4', e4, h⟩ := h
        intro a4 e5
        have x9 : a4' = a4 := Option.some.inj (e4.symm.trans e5)
        rw [x9] at h
        intro e6
        have h := h.2
        refine jaJx4a65c_get_915e3 ?_ _ _ _ h
        intro q7 σ6 h
        obtain ⟨a9', e7, h⟩ := h
        intro a9 e8
        have x9 : a9' = a9 := Option.some.inj (e7.symm.trans e8)
        rw [x9] at h
        intro e9
        have h := h.2
        intro σ12 e10
        have h := h σ12 e10
        refine ⟨?_, ?_⟩
        · have h := h.1
          intro e11
          have h := h e11
          exact jaX1_ageLogs_70 (k12 := wX1_ageLogs_12 Q n) (k12' := vX1_ageLogs_12 Q' m) (fun _ _ _ h => ih m _ _ _ h) hQ _ _ _ h
        · have h := h.2
          intro e12
          have h := h e12
          intro σ15 e13
          have h := h σ15 e13
          intro e14
          have h := h.2
          obtain ⟨a18', e15, h⟩ := h
          intro a18 e16
          have x9 : a18' = a18 := Option.some.inj (e15.symm.trans e16)
          rw [x9] at h
          intro e17
          have h := h.2
          refine jaJx4a65c_remove_915e3 ?_ _ _ _ h
          intro q21 σ20 h
          exact jaX1_ageLogs_70 (k12 := wX1_ageLogs_12 Q n) (k12' := vX1_ageLogs_12 Q' m) (fun _ _ _ h => ih m _ _ _ h) hQ _ _ _ h
set_option maxRecDepth 100000 in
set_option maxHeartbeats 4000000 in
theorem jfX1_ageLogs_12 {I : kx_S → Prop} (W : fw_ I [16, 18, 132, 135, 1003]) {Q : kx_S → Prop} (hQ : ∀ y0, I y0 → Q y0) : ∀ (n : Nat) (l0 : Nat) (l1 : Int32) (σ : kx_S), I σ → vX1_ageLogs_12 Q n l0 l1 σ := by
  intro n
  induction n with
  | zero => intro l0 l1 σ i; exact trivial
  | succ n ih =>
    intro l0 l1 σ i
    unfold vX1_ageLogs_12
    refine ⟨?_, ?_⟩
    · intro e1
      exact hQ _ i
    · intro e2
      intro e3
      intro a4 e4
      intro e5
      refine jfJx4a65c_get_915e3 (I := I) (fw_sub W (by decide)) ?_ _ _ _ i
      intro q7 σ6 iσ6
      intro a9 e6
      intro e7
      intro σ12 e8
      have iσ12 : I σ12 := by rw [e8]; exact ((W _ iσ6).1 135 (by decide)).1 _ _
      refine ⟨?_, ?_⟩
      · intro e9
        exact jfX1_ageLogs_70 (I := I) (fw_sub W (by decide)) (k12 := vX1_ageLogs_12 Q n) (fun _ _ _ i => ih _ _ _ i) hQ _ _ _ iσ12
      · intro e10
        intro σ15 e11
        have iσ15 : I σ15 := by rw [e11]; exact ((W _ iσ12).1 132 (by decide)).1 _ _
        intro e12
        intro a18 e13
        intro e14
        refine jfJx4a65c_remove_915e3 (I := I) (fw_sub W (by decide)) ?_ _ _ _ iσ15
        intro q21 σ20 iσ20
        exact jfX1_ageLogs_70 (I := I) (fw_sub W (by decide)) (k12 := vX1_ageLogs_12 Q n) (fun _ _ _ i => ih _ _ _ i) hQ _ _ _ iσ20
def vX1_ageLogs (l0 : Nat) (σ : kx_S) (Q : kx_S → Prop) : Prop := xt σ l0 = 3 → ∀ a24, xr σ 49 l0 = some a24 → xt σ a24 = 1 → vJx4a65c_size_8abf5 a24 σ (fun r27 σ26 => ∀ v29, v29 = r27 - 1 → ∀ j, vX1_ageLogs_12 Q j l0 v29 σ26)
set_option maxRecDepth 100000 in
set_option maxHeartbeats 4000000 in
theorem jcX1_ageLogs {Q Q' Q'' : kx_S → Prop} (hQ : ∀ y0, Q y0 → Q' y0 → Q'' y0) : ∀ (l0 : Nat) (σ : kx_S), wX1_ageLogs l0 σ Q → vX1_ageLogs l0 σ Q' → wX1_ageLogs l0 σ Q'' := by
  intro l0 σ h v
  unfold wX1_ageLogs at h
  unfold vX1_ageLogs at v
  unfold wX1_ageLogs
  refine ⟨h.1, ?_⟩
  have v := v h.1
  have h := h.2
  obtain ⟨a24, e2, h⟩ := h
  refine ⟨a24, e2, ?_⟩
  have v := v a24 e2
  refine ⟨h.1, ?_⟩
  have v := v h.1
  have h := h.2
  refine jcJx4a65c_size_8abf5 ?_ _ _ h v
  intro r27 σ26 h v
  intro v29 e4
  have h := h v29 e4
  have v := v v29 e4
  obtain ⟨j, h⟩ := h
  refine ⟨j, ?_⟩
  have v := v j
  exact jcX1_ageLogs_12 hQ _ _ _ _ h v
set_option maxRecDepth 100000 in
set_option maxHeartbeats 4000000 in
theorem jaX1_ageLogs {Q Q' : kx_S → Prop} (hQ : ∀ y0, Q y0 → Q' y0) : ∀ (l0 : Nat) (σ : kx_S), wX1_ageLogs l0 σ Q → vX1_ageLogs l0 σ Q' := by
  intro l0 σ h
  unfold wX1_ageLogs at h
  unfold vX1_ageLogs
  intro e1
  have h := h.2
  obtain ⟨a24', e2, h⟩ := h
  intro a24 e3
  have x9 : a24' = a24 := Option.some.inj (e2.symm.trans e3)
  rw [x9] at h
  intro e4
  have h := h.2
  refine jaJx4a65c_size_8abf5 ?_ _ _ h
  intro r27 σ26 h
  intro v29 e5
  have h := h v29 e5
  obtain ⟨j, h⟩ := h
  intro j9
  exact jaX1_ageLogs_12 hQ _ j9 _ _ _ h
set_option maxRecDepth 100000 in
set_option maxHeartbeats 4000000 in
theorem jfX1_ageLogs {I : kx_S → Prop} (W : fw_ I [16, 18, 132, 135, 1003]) {Q : kx_S → Prop} (hQ : ∀ y0, I y0 → Q y0) : ∀ (l0 : Nat) (σ : kx_S), I σ → vX1_ageLogs l0 σ Q := by
  intro l0 σ i
  unfold vX1_ageLogs
  intro e1
  intro a24 e2
  intro e3
  refine jfJx4a65c_size_8abf5 (I := I) (fw_sub W (by decide)) ?_ _ _ i
  intro r27 σ26 iσ26
  intro v29 e4
  intro j
  exact jfX1_ageLogs_12 (I := I) (fw_sub W (by decide)) hQ _ _ _ _ iσ26
def vX2_init (l0 : Nat) (l1 : Nat) (l2 : Int32) (σ : kx_S) (Q : kx_S → Prop) : Prop := xt σ l0 = 4 → ∀ σ2, σ2 = xsr σ 64 l0 (some l1) → ∀ σ4, σ4 = xsi σ2 65 l0 (l2 + 1) → Q σ4
set_option maxRecDepth 100000 in
set_option maxHeartbeats 4000000 in
theorem jcX2_init {Q Q' Q'' : kx_S → Prop} (hQ : ∀ y0, Q y0 → Q' y0 → Q'' y0) : ∀ (l0 : Nat) (l1 : Nat) (l2 : Int32) (σ : kx_S), wX2_init l0 l1 l2 σ Q → vX2_init l0 l1 l2 σ Q' → wX2_init l0 l1 l2 σ Q'' := by
  intro l0 l1 l2 σ h v
  unfold wX2_init at h
  unfold vX2_init at v
  unfold wX2_init
  refine ⟨h.1, ?_⟩
  have v := v h.1
  have h := h.2
  intro σ2 e2
  have h := h σ2 e2
  have v := v σ2 e2
  intro σ4 e3
  have h := h σ4 e3
  have v := v σ4 e3
  exact hQ _ h v
set_option maxRecDepth 100000 in
set_option maxHeartbeats 4000000 in
theorem jaX2_init {Q Q' : kx_S → Prop} (hQ : ∀ y0, Q y0 → Q' y0) : ∀ (l0 : Nat) (l1 : Nat) (l2 : Int32) (σ : kx_S), wX2_init l0 l1 l2 σ Q → vX2_init l0 l1 l2 σ Q' := by
  intro l0 l1 l2 σ h
  unfold wX2_init at h
  unfold vX2_init
  intro e1
  have h := h.2
  intro σ2 e2
  have h := h σ2 e2
  intro σ4 e3
  have h := h σ4 e3
  exact hQ _ h
set_option maxRecDepth 100000 in
set_option maxHeartbeats 4000000 in
theorem jfX2_init {I : kx_S → Prop} (W : fw_ I [64, 65]) {Q : kx_S → Prop} (hQ : ∀ y0, I y0 → Q y0) : ∀ (l0 : Nat) (l1 : Nat) (l2 : Int32) (σ : kx_S), I σ → vX2_init l0 l1 l2 σ Q := by
  intro l0 l1 l2 σ i
  unfold vX2_init
  intro e1
  intro σ2 e2
  have iσ2 : I σ2 := by rw [e2]; exact ((W _ i).1 64 (by decide)).2.1 _ _
  intro σ4 e3
  have iσ4 : I σ4 := by rw [e3]; exact ((W _ iσ2).1 65 (by decide)).1 _ _
  exact hQ _ iσ4
def vX2_come (l0 : Nat) (l1 : Nat) (l2 : Int32) (σ : kx_S) (Q : kx_S → Prop) : Prop := xt σ l0 = 4 → ∀ σ2, σ2 = xsr σ 64 l0 (some l1) → ∀ σ4, σ4 = xsi σ2 65 l0 (l2 + 1) → Q σ4
set_option maxRecDepth 100000 in
set_option maxHeartbeats 4000000 in
theorem jcX2_come {Q Q' Q'' : kx_S → Prop} (hQ : ∀ y0, Q y0 → Q' y0 → Q'' y0) : ∀ (l0 : Nat) (l1 : Nat) (l2 : Int32) (σ : kx_S), wX2_come l0 l1 l2 σ Q → vX2_come l0 l1 l2 σ Q' → wX2_come l0 l1 l2 σ Q'' := by
  intro l0 l1 l2 σ h v
  unfold wX2_come at h
  unfold vX2_come at v
  unfold wX2_come
  refine ⟨h.1, ?_⟩
  have v := v h.1
  have h := h.2
  intro σ2 e2
  have h := h σ2 e2
  have v := v σ2 e2
  intro σ4 e3
  have h := h σ4 e3
  have v := v σ4 e3
  exact hQ _ h v
set_option maxRecDepth 100000 in
set_option maxHeartbeats 4000000 in
theorem jaX2_come {Q Q' : kx_S → Prop} (hQ : ∀ y0, Q y0 → Q' y0) : ∀ (l0 : Nat) (l1 : Nat) (l2 : Int32) (σ : kx_S), wX2_come l0 l1 l2 σ Q → vX2_come l0 l1 l2 σ Q' := by
  intro l0 l1 l2 σ h
  unfold wX2_come at h
  unfold vX2_come
  intro e1
  have h := h.2
  intro σ2 e2
  have h := h σ2 e2
  intro σ4 e3
  have h := h σ4 e3
  exact hQ _ h
set_option maxRecDepth 100000 in
set_option maxHeartbeats 4000000 in
theorem jfX2_come {I : kx_S → Prop} (W : fw_ I [64, 65]) {Q : kx_S → Prop} (hQ : ∀ y0, I y0 → Q y0) : ∀ (l0 : Nat) (l1 : Nat) (l2 : Int32) (σ : kx_S), I σ → vX2_come l0 l1 l2 σ Q := by
  intro l0 l1 l2 σ i
  unfold vX2_come
  intro e1
  intro σ2 e2
  have iσ2 : I σ2 := by rw [e2]; exact ((W _ i).1 64 (by decide)).2.1 _ _
  intro σ4 e3
  have iσ4 : I σ4 := by rw [e3]; exact ((W _ iσ2).1 65 (by decide)).1 _ _
  exact hQ _ iσ4
end
section
def vX2_rest (l0 : Nat) (l1 : Int32) (σ : kx_S) (Q : kx_S → Prop) : Prop := xt σ l0 = 4 → ∀ σ2, σ2 = xsi σ 65 l0 (l1 + 2) → Q σ2
set_option maxRecDepth 100000 in
set_option maxHeartbeats 4000000 in
theorem jcX2_rest {Q Q' Q'' : kx_S → Prop} (hQ : ∀ y0, Q y0 → Q' y0 → Q'' y0) : ∀ (l0 : Nat) (l1 : Int32) (σ : kx_S), wX2_rest l0 l1 σ Q → vX2_rest l0 l1 σ Q' → wX2_rest l0 l1 σ Q'' := by
  intro l0 l1 σ h v
  unfold wX2_rest at h
  unfold vX2_rest at v
  unfold wX2_rest
  refine ⟨h.1, ?_⟩
  have v := v h.1
  have h := h.2
  intro σ2 e2
  have h := h σ2 e2
  have v := v σ2 e2
  exact hQ _ h v
set_option maxRecDepth 100000 in
set_option maxHeartbeats 4000000 in
theorem jaX2_rest {Q Q' : kx_S → Prop} (hQ : ∀ y0, Q y0 → Q' y0) : ∀ (l0 : Nat) (l1 : Int32) (σ : kx_S), wX2_rest l0 l1 σ Q → vX2_rest l0 l1 σ Q' := by
  intro l0 l1 σ h
  unfold wX2_rest at h
  unfold vX2_rest
  intro e1
  have h := h.2
  intro σ2 e2
  have h := h σ2 e2
  exact hQ _ h
set_option maxRecDepth 100000 in
set_option maxHeartbeats 4000000 in
theorem jfX2_rest {I : kx_S → Prop} (W : fw_ I [65]) {Q : kx_S → Prop} (hQ : ∀ y0, I y0 → Q y0) : ∀ (l0 : Nat) (l1 : Int32) (σ : kx_S), I σ → vX2_rest l0 l1 σ Q := by
  intro l0 l1 σ i
  unfold vX2_rest
  intro e1
  intro σ2 e2
  have iσ2 : I σ2 := by rw [e2]; exact ((W _ i).1 65 (by decide)).1 _ _
  exact hQ _ iσ2
def vX3_init (l0 : Nat) (σ : kx_S) (Q : kx_S → Prop) : Prop := xc σ < kx_N → ¬ (33 : Int32) < 0 → (Int32.toNatClampNeg 33) ≤ 600 → ∀ p1, xt σ p1 = 0 → p1 ≠ xz σ → ∀ σ7, σ7 = xnewA σ p1 20 (Int32.toNatClampNeg 33) → xt σ7 l0 = 5 → ∀ σ10, σ10 = xsr σ7 80 l0 (some p1) → xc σ10 < kx_N → ¬ (7 : Int32) < 0 → (Int32.toNatClampNeg 7) ≤ 600 → ∀ p13, xt σ10 p13 = 0 → p13 ≠ xz σ10 → ∀ σ19, σ19 = xnewA σ10 p13 20 (Int32.toNatClampNeg 7) → xt σ19 l0 = 5 → ∀ σ22, σ22 = xsr σ19 81 l0 (some p13) → Q σ22
set_option maxRecDepth 100000 in
set_option maxHeartbeats 4000000 in
theorem jcX3_init {Q Q' Q'' : kx_S → Prop} (hQ : ∀ y0, Q y0 → Q' y0 → Q'' y0) : ∀ (l0 : Nat) (σ : kx_S), wX3_init l0 σ Q → vX3_init l0 σ Q' → wX3_init l0 σ Q'' := by
  intro l0 σ h v
  unfold wX3_init at h
  unfold vX3_init at v
  unfold wX3_init
  refine ⟨h.1, ?_⟩
  have v := v h.1
  have h := h.2
  refine ⟨h.1, ?_⟩
  have v := v h.1
  have h := h.2
  refine ⟨h.1, ?_⟩
  have v := v h.1
  have h := h.2
  intro p1 e4 e5
  have h := h p1 e4 e5
  have v := v p1 e4 e5
  intro σ7 e6
  have h := h σ7 e6
  have v := v σ7 e6
  refine ⟨h.1, ?_⟩
  have v := v h.1
  have h := h.2
  intro σ10 e8
  have h := h σ10 e8
  have v := v σ10 e8
  refine ⟨h.1, ?_⟩
  have v := v h.1
  have h := h.2
  refine ⟨h.1, ?_⟩
  have v := v h.1
  have h := h.2
  refine ⟨h.1, ?_⟩
  have v := v h.1
  have h := h.2
  intro p13 e12 e13
  have h := h p13 e12 e13
  have v := v p13 e12 e13
  intro σ19 e14
  have h := h σ19 e14
  have v := v σ19 e14
  refine ⟨h.1, ?_⟩
  have v := v h.1
  have h := h.2
  intro σ22 e16
  have h := h σ22 e16
  have v := v σ22 e16
  exact hQ _ h v
set_option maxRecDepth 100000 in
set_option maxHeartbeats 4000000 in
theorem jaX3_init {Q Q' : kx_S → Prop} (hQ : ∀ y0, Q y0 → Q' y0) : ∀ (l0 : Nat) (σ : kx_S), wX3_init l0 σ Q → vX3_init l0 σ Q' := by
  intro l0 σ h
  unfold wX3_init at h
  unfold vX3_init
  intro e1
  have h := h.2
  intro e2
  have h := h.2
  intro e3
  have h := h.2
  intro p1 e4 e5
  have h := h p1 e4 e5
  intro σ7 e6
  have h := h σ7 e6
  intro e7
  have h := h.2
  intro σ10 e8
  have h := h σ10 e8
  intro e9
  have h := h.2
  intro e10
  have h := h.2
  intro e11
  have h := h.2
  intro p13 e12 e13
  have h := h p13 e12 e13
  intro σ19 e14
  have h := h σ19 e14
  intro e15
  have h := h.2
  intro σ22 e16
  have h := h σ22 e16
  exact hQ _ h
set_option maxRecDepth 100000 in
set_option maxHeartbeats 4000000 in
theorem jfX3_init {I : kx_S → Prop} (W : fw_ I [80, 81, 1220]) {Q : kx_S → Prop} (hQ : ∀ y0, I y0 → Q y0) : ∀ (l0 : Nat) (σ : kx_S), I σ → vX3_init l0 σ Q := by
  intro l0 σ i
  unfold vX3_init
  intro e1
  intro e2
  intro e3
  intro p1 e4 e5
  intro σ7 e6
  have iσ7 : I σ7 := by rw [e6]; exact (W _ i).2.2.2.2.2.2.2 20 (by decide) _ e4 _
  intro e7
  intro σ10 e8
  have iσ10 : I σ10 := by rw [e8]; exact ((W _ iσ7).1 80 (by decide)).2.1 _ _
  intro e9
  intro e10
  intro e11
  intro p13 e12 e13
  intro σ19 e14
  have iσ19 : I σ19 := by rw [e14]; exact (W _ iσ10).2.2.2.2.2.2.2 20 (by decide) _ e12 _
  intro e15
  intro σ22 e16
  have iσ22 : I σ22 := by rw [e16]; exact ((W _ iσ19).1 81 (by decide)).2.1 _ _
  exact hQ _ iσ22
def vX3_name (l0 : Nat) (l1 : Int32) (l2 : Int32) (σ : kx_S) (Q : kx_S → Prop) : Prop := xt σ l0 = 5 → ∀ a2, xr σ 81 l0 = some a2 → xt σ a2 = 20 → vp_in ((-1) - l1) (xn σ a2) → ∀ σ6, σ6 = xsai σ a2 ((-1) - l1).toNatClampNeg l2 → Q σ6
set_option maxRecDepth 100000 in
set_option maxHeartbeats 4000000 in
theorem jcX3_name {Q Q' Q'' : kx_S → Prop} (hQ : ∀ y0, Q y0 → Q' y0 → Q'' y0) : ∀ (l0 : Nat) (l1 : Int32) (l2 : Int32) (σ : kx_S), wX3_name l0 l1 l2 σ Q → vX3_name l0 l1 l2 σ Q' → wX3_name l0 l1 l2 σ Q'' := by
  intro l0 l1 l2 σ h v
  unfold wX3_name at h
  unfold vX3_name at v
  unfold wX3_name
  refine ⟨h.1, ?_⟩
  have v := v h.1
  have h := h.2
  obtain ⟨a2, e2, h⟩ := h
  refine ⟨a2, e2, ?_⟩
  have v := v a2 e2
  refine ⟨h.1, ?_⟩
  have v := v h.1
  have h := h.2
  refine ⟨h.1, ?_⟩
  have v := v h.1
  have h := h.2
  intro σ6 e5
  have h := h σ6 e5
  have v := v σ6 e5
  exact hQ _ h v
set_option maxRecDepth 100000 in
set_option maxHeartbeats 4000000 in
theorem jaX3_name {Q Q' : kx_S → Prop} (hQ : ∀ y0, Q y0 → Q' y0) : ∀ (l0 : Nat) (l1 : Int32) (l2 : Int32) (σ : kx_S), wX3_name l0 l1 l2 σ Q → vX3_name l0 l1 l2 σ Q' := by
  intro l0 l1 l2 σ h
  unfold wX3_name at h
  unfold vX3_name
  intro e1
  have h := h.2
  obtain ⟨a2', e2, h⟩ := h
  intro a2 e3
  have x9 : a2' = a2 := Option.some.inj (e2.symm.trans e3)
  rw [x9] at h
  intro e4
  have h := h.2
  intro e5
  have h := h.2
  intro σ6 e6
  have h := h σ6 e6
  exact hQ _ h
set_option maxRecDepth 100000 in
set_option maxHeartbeats 4000000 in
theorem jfX3_name {I : kx_S → Prop} (W : fw_ I [1001]) {Q : kx_S → Prop} (hQ : ∀ y0, I y0 → Q y0) : ∀ (l0 : Nat) (l1 : Int32) (l2 : Int32) (σ : kx_S), I σ → vX3_name l0 l1 l2 σ Q := by
  intro l0 l1 l2 σ i
  unfold vX3_name
  intro e1
  intro a2 e2
  intro e3
  intro e4
  intro σ6 e5
  have iσ6 : I σ6 := by rw [e5]; exact (W _ i).2.1 (by decide) _ _ _
  exact hQ _ iσ6
def vX3_push (l0 : Nat) (l1 : Int32) (σ : kx_S) (Q : kx_S → Prop) : Prop := xt σ l0 = 5 → ∀ a2, xr σ 80 l0 = some a2 → xt σ a2 = 20 → (((nI (xn σ a2)) ≤ (xi σ 82 l0) → Q σ) ∧ (¬ ((nI (xn σ a2)) ≤ (xi σ 82 l0)) → ∀ a6, xr σ 80 l0 = some a6 → xt σ a6 = 20 → vp_in (xi σ 82 l0) (xn σ a6) → ∀ σ10, σ10 = xsai σ a6 (xi σ 82 l0).toNatClampNeg l1 → ∀ σ14, σ14 = xsi σ10 82 l0 ((xi σ10 82 l0) + 1) → Q σ14))
set_option maxRecDepth 100000 in
set_option maxHeartbeats 4000000 in
theorem jcX3_push {Q Q' Q'' : kx_S → Prop} (hQ : ∀ y0, Q y0 → Q' y0 → Q'' y0) : ∀ (l0 : Nat) (l1 : Int32) (σ : kx_S), wX3_push l0 l1 σ Q → vX3_push l0 l1 σ Q' → wX3_push l0 l1 σ Q'' := by
  intro l0 l1 σ h v
  unfold wX3_push at h
  unfold vX3_push at v
  unfold wX3_push
  refine ⟨h.1, ?_⟩
  have v := v h.1
  have h := h.2
  obtain ⟨a2, e2, h⟩ := h
  refine ⟨a2, e2, ?_⟩
  have v := v a2 e2
  refine ⟨h.1, ?_⟩
  have v := v h.1
  have h := h.2
  refine ⟨?_, ?_⟩
  · have h := h.1
    have v := v.1
    intro e4
    have h := h e4
    have v := v e4
    exact hQ _ h v
  · have h := h.2
    have v := v.2
    intro e5
    have h := h e5
    have v := v e5
    obtain ⟨a6, e6, h⟩ := h
    refine ⟨a6, e6, ?_⟩
    have v := v a6 e6
    refine ⟨h.1, ?_⟩
    have v := v h.1
    have h := h.2
    refine ⟨h.1, ?_⟩
    have v := v h.1
    have h := h.2
    intro σ10 e9
    have h := h σ10 e9
    have v := v σ10 e9
    intro σ14 e10
    have h := h σ14 e10
    have v := v σ14 e10
    exact hQ _ h v
set_option maxRecDepth 100000 in
set_option maxHeartbeats 4000000 in
theorem jaX3_push {Q Q' : kx_S → Prop} (hQ : ∀ y0, Q y0 → Q' y0) : ∀ (l0 : Nat) (l1 : Int32) (σ : kx_S), wX3_push l0 l1 σ Q → vX3_push l0 l1 σ Q' := by
  intro l0 l1 σ h
  unfold wX3_push at h
  unfold vX3_push
  intro e1
  have h := h.2
  obtain ⟨a2', e2, h⟩ := h
  intro a2 e3
  have x9 : a2' = a2 := Option.some.inj (e2.symm.trans e3)
  rw [x9] at h
  intro e4
  have h := h.2
  refine ⟨?_, ?_⟩
  · have h := h.1
    intro e5
    have h := h e5
    exact hQ _ h
  · have h := h.2
    intro e6
    have h := h e6
    obtain ⟨a6', e7, h⟩ := h
    intro a6 e8
    have x9 : a6' = a6 := Option.some.inj (e7.symm.trans e8)
    rw [x9] at h
    intro e9
    have h := h.2
    intro e10
    have h := h.2
    intro σ10 e11
    have h := h σ10 e11
    intro σ14 e12
    have h := h σ14 e12
    exact hQ _ h
set_option maxRecDepth 100000 in
set_option maxHeartbeats 4000000 in
theorem jfX3_push {I : kx_S → Prop} (W : fw_ I [82, 1001]) {Q : kx_S → Prop} (hQ : ∀ y0, I y0 → Q y0) : ∀ (l0 : Nat) (l1 : Int32) (σ : kx_S), I σ → vX3_push l0 l1 σ Q := by
  intro l0 l1 σ i
  unfold vX3_push
  intro e1
  intro a2 e2
  intro e3
  refine ⟨?_, ?_⟩
  · intro e4
    exact hQ _ i
  · intro e5
    intro a6 e6
    intro e7
    intro e8
    intro σ10 e9
    have iσ10 : I σ10 := by rw [e9]; exact (W _ i).2.1 (by decide) _ _ _
    intro σ14 e10
    have iσ14 : I σ14 := by rw [e10]; exact ((W _ iσ10).1 82 (by decide)).1 _ _
    exact hQ _ iσ14
def vX3_pop (l0 : Nat) (σ : kx_S) (Q : Int32 → kx_S → Prop) : Prop := xt σ l0 = 5 → ((¬ (xi σ 82 l0) = 0 → ∀ σ3, σ3 = xsi σ 82 l0 ((xi σ 82 l0) - 1) → ∀ a5, xr σ3 80 l0 = some a5 → xt σ3 a5 = 20 → vp_in (xi σ3 82 l0) (xn σ3 a5) → Q (xai σ3 a5 (xi σ3 82 l0).toNatClampNeg) σ3) ∧ ((xi σ 82 l0) = 0 → Q 0 σ))
set_option maxRecDepth 100000 in
set_option maxHeartbeats 4000000 in
theorem jcX3_pop {Q Q' Q'' : Int32 → kx_S → Prop} (hQ : ∀ y0 y1, Q y0 y1 → Q' y0 y1 → Q'' y0 y1) : ∀ (l0 : Nat) (σ : kx_S), wX3_pop l0 σ Q → vX3_pop l0 σ Q' → wX3_pop l0 σ Q'' := by
  intro l0 σ h v
  unfold wX3_pop at h
  unfold vX3_pop at v
  unfold wX3_pop
  refine ⟨h.1, ?_⟩
  have v := v h.1
  have h := h.2
  refine ⟨?_, ?_⟩
  · have h := h.1
    have v := v.1
    intro e2
    have h := h e2
    have v := v e2
    intro σ3 e3
    have h := h σ3 e3
    have v := v σ3 e3
    obtain ⟨a5, e4, h⟩ := h
    refine ⟨a5, e4, ?_⟩
    have v := v a5 e4
    refine ⟨h.1, ?_⟩
    have v := v h.1
    have h := h.2
    refine ⟨h.1, ?_⟩
    have v := v h.1
    have h := h.2
    exact hQ _ _ h v
  · have h := h.2
    have v := v.2
    intro e7
    have h := h e7
    have v := v e7
    exact hQ _ _ h v
set_option maxRecDepth 100000 in
set_option maxHeartbeats 4000000 in
theorem jaX3_pop {Q Q' : Int32 → kx_S → Prop} (hQ : ∀ y0 y1, Q y0 y1 → Q' y0 y1) : ∀ (l0 : Nat) (σ : kx_S), wX3_pop l0 σ Q → vX3_pop l0 σ Q' := by
  intro l0 σ h
  unfold wX3_pop at h
  unfold vX3_pop
  intro e1
  have h := h.2
  refine ⟨?_, ?_⟩
  · have h := h.1
    intro e2
    have h := h e2
    intro σ3 e3
    have h := h σ3 e3
    obtain ⟨a5', e4, h⟩ := h
    intro a5 e5
    have x9 : a5' = a5 := Option.some.inj (e4.symm.trans e5)
    rw [x9] at h
    intro e6
    have h := h.2
    intro e7
    have h := h.2
    exact hQ _ _ h
  · have h := h.2
    intro e8
    have h := h e8
    exact hQ _ _ h
set_option maxRecDepth 100000 in
set_option maxHeartbeats 4000000 in
theorem jfX3_pop {I : kx_S → Prop} (W : fw_ I [82]) {Q : Int32 → kx_S → Prop} (hQ : ∀ y0 y1, I y1 → Q y0 y1) : ∀ (l0 : Nat) (σ : kx_S), I σ → vX3_pop l0 σ Q := by
  intro l0 σ i
  unfold vX3_pop
  intro e1
  refine ⟨?_, ?_⟩
  · intro e2
    intro σ3 e3
    have iσ3 : I σ3 := by rw [e3]; exact ((W _ i).1 82 (by decide)).1 _ _
    intro a5 e4
    intro e5
    intro e6
    exact hQ _ _ iσ3
  · intro e7
    exact hQ _ _ i
def vX3_join (l0 : Int32) (l1 : Int32) (l2 : Int32) (σ : kx_S) (Q : Int32 → kx_S → Prop) : Prop := ∀ v1, v1 = l0 → ((v1 = (-15) → ((¬ l1 = 0 → Q 1 σ) ∧ (l1 = 0 → ((l2 = 0 → Q 0 σ) ∧ (¬ (l2 = 0) → Q 1 σ))))) ∧ ((v1 = (-14) → ((l1 = 0 → Q 0 σ) ∧ (¬ (l1 = 0) → ((l2 = 0 → Q 0 σ) ∧ (¬ (l2 = 0) → Q 1 σ))))) ∧ ((v1 = (-13) → ((¬ l1 = l2 → Q 0 σ) ∧ (l1 = l2 → Q 1 σ))) ∧ ((v1 = (-12) → ((l2 ≤ l1 → Q 0 σ) ∧ (¬ (l2 ≤ l1) → Q 1 σ))) ∧ ((v1 = (-11) → ((¬ l2 = 0 → ¬ l2 = 0 → Q (l1 / l2) σ) ∧ (l2 = 0 → Q 0 σ))) ∧ ((v1 = (-10) → Q (l1 * l2) σ) ∧ ((v1 = (-9) → Q (l1 - l2) σ) ∧ ((v1 = (-8) → Q (l1 + l2) σ) ∧ (¬ v1 = (-15) → ¬ v1 = (-14) → ¬ v1 = (-13) → ¬ v1 = (-12) → ¬ v1 = (-11) → ¬ v1 = (-10) → ¬ v1 = (-9) → ¬ v1 = (-8) → Q 0 σ)))))))))
set_option maxRecDepth 100000 in
set_option maxHeartbeats 4000000 in
theorem jcX3_join {Q Q' Q'' : Int32 → kx_S → Prop} (hQ : ∀ y0 y1, Q y0 y1 → Q' y0 y1 → Q'' y0 y1) : ∀ (l0 : Int32) (l1 : Int32) (l2 : Int32) (σ : kx_S), wX3_join l0 l1 l2 σ Q → vX3_join l0 l1 l2 σ Q' → wX3_join l0 l1 l2 σ Q'' := by
  intro l0 l1 l2 σ h v
  unfold wX3_join at h
  unfold vX3_join at v
  unfold wX3_join
  intro v1 e1
  have h := h v1 e1
  have v := v v1 e1
  refine ⟨?_, ?_⟩
  · have h := h.1
    have v := v.1
    intro e2
    have h := h e2
    have v := v e2
    refine ⟨?_, ?_⟩
    · have h := h.1
      have v := v.1
      intro e3
      have h := h e3
      have v := v e3
      exact hQ _ _ h v
    · have h := h.2
      have v := v.2
      intro e4
      have h := h e4
      have v := v e4
      refine ⟨?_, ?_⟩
      · have h := h.1
        have v := v.1
        intro e5
        have h := h e5
        have v := v e5
        exact hQ _ _ h v
      · have h := h.2
        have v := v.2
        intro e6
        have h := h e6
        have v := v e6
        exact hQ _ _ h v
  · have h := h.2
    have v := v.2
    refine ⟨?_, ?_⟩
    · have h := h.1
      have v := v.1
      intro e7
      have h := h e7
      have v := v e7
      refine ⟨?_, ?_⟩
      · have h := h.1
        have v := v.1
        intro e8
        have h := h e8
        have v := v e8
        exact hQ _ _ h v
      · have h := h.2
        have v := v.2
        intro e9
        have h := h e9
        have v := v e9
        refine ⟨?_, ?_⟩
        · have h := h.1
          have v := v.1
          intro e10
          have h := h e10
          have v := v e10
          exact hQ _ _ h v
        · have h := h.2
          have v := v.2
          intro e11
          have h := h e11
          have v := v e11
          exact hQ _ _ h v
    · have h := h.2
      have v := v.2
      refine ⟨?_, ?_⟩
      · have h := h.1
        have v := v.1
        intro e12
        have h := h e12
        have v := v e12
        refine ⟨?_, ?_⟩
        · have h := h.1
          have v := v.1
          intro e13
          have h := h e13
          have v := v e13
          exact hQ _ _ h v
        · have h := h.2
          have v := v.2
          intro e14
          have h := h e14
          have v := v e14
          exact hQ _ _ h v
      · have h := h.2
        have v := v.2
        refine ⟨?_, ?_⟩
        · have h := h.1
          have v := v.1
          intro e15
          have h := h e15
          have v := v e15
          refine ⟨?_, ?_⟩
          · have h := h.1
            have v := v.1
            intro e16
            have h := h e16
            have v := v e16
            exact hQ _ _ h v
          · have h := h.2
            have v := v.2
            intro e17
            have h := h e17
            have v := v e17
            exact hQ _ _ h v
        · have h := h.2
          have v := v.2
          refine ⟨?_, ?_⟩
          · have h := h.1
            have v := v.1
            intro e18
            have h := h e18
            have v := v e18
            refine ⟨?_, ?_⟩
            · have h := h.1
              have v := v.1
              intro e19
              have h := h e19
              have v := v e19
              refine ⟨h.1, ?_⟩
              have v := v h.1
              have h := h.2
              exact hQ _ _ h v
            · have h := h.2
              have v := v.2
              intro e21
              have h := h e21
              have v := v e21
              exact hQ _ _ h v
          · have h := h.2
            have v := v.2
            refine ⟨?_, ?_⟩
            · have h := h.1
              have v := v.1
              intro e22
              have h := h e22
              have v := v e22
              exact hQ _ _ h v
            · have h := h.2
              have v := v.2
              refine ⟨?_, ?_⟩
              · have h := h.1
                have v := v.1
                intro e23
                have h := h e23
                have v := v e23
                exact hQ _ _ h v
              · have h := h.2
                have v := v.2
                refine ⟨?_, ?_⟩
                · have h := h.1
                  have v := v.1
                  intro e24
                  have h := h e24
                  have v := v e24
                  exact hQ _ _ h v
                · have h := h.2
                  have v := v.2
                  intro e25 e26 e27 e28 e29 e30 e31 e32
                  have h := h e25 e26 e27 e28 e29 e30 e31 e32
                  have v := v e25 e26 e27 e28 e29 e30 e31 e32
                  exact hQ _ _ h v
set_option maxRecDepth 100000 in
set_option maxHeartbeats 4000000 in
theorem jaX3_join {Q Q' : Int32 → kx_S → Prop} (hQ : ∀ y0 y1, Q y0 y1 → Q' y0 y1) : ∀ (l0 : Int32) (l1 : Int32) (l2 : Int32) (σ : kx_S), wX3_join l0 l1 l2 σ Q → vX3_join l0 l1 l2 σ Q' := by
  intro l0 l1 l2 σ h
  unfold wX3_join at h
  unfold vX3_join
  intro v1 e1
  have h := h v1 e1
  refine ⟨?_, ?_⟩
  · have h := h.1
    intro e2
    have h := h e2
    refine ⟨?_, ?_⟩
    · have h := h.1
      intro e3
      have h := h e3
      exact hQ _ _ h
    · have h := h.2
      intro e4
      have h := h e4
      refine ⟨?_, ?_⟩
      · have h := h.1
        intro e5
        have h := h e5
        exact hQ _ _ h
      · have h := h.2
        intro e6
        have h := h e6
        exact hQ _ _ h
  · have h := h.2
    refine ⟨?_, ?_⟩
    · have h := h.1
      intro e7
      have h := h e7
      refine ⟨?_, ?_⟩
      · have h := h.1
        intro e8
        have h := h e8
        exact hQ _ _ h
      · have h := h.2
        intro e9
        have h := h e9
        refine ⟨?_, ?_⟩
        · have h := h.1
          intro e10
          have h := h e10
          exact hQ _ _ h
        · have h := h.2
          intro e11
          have h := h e11
          exact hQ _ _ h
    · have h := h.2
      refine ⟨?_, ?_⟩
      · have h := h.1
        intro e12
        have h := h e12
        refine ⟨?_, ?_⟩
        · have h := h.1
          intro e13
          have h := h e13
          exact hQ _ _ h
        · have h := h.2
          intro e14
          have h := h e14
          exact hQ _ _ h
      · have h := h.2
        refine ⟨?_, ?_⟩
        · have h := h.1
          intro e15
          have h := h e15
          refine ⟨?_, ?_⟩
          · have h := h.1
            intro e16
            have h := h e16
            exact hQ _ _ h
          · have h := h.2
            intro e17
            have h := h e17
            exact hQ _ _ h
        · have h := h.2
          refine ⟨?_, ?_⟩
          · have h := h.1
            intro e18
            have h := h e18
            refine ⟨?_, ?_⟩
            · have h := h.1
              intro e19
              have h := h e19
              intro e20
              have h := h.2
              exact hQ _ _ h
            · have h := h.2
              intro e21
              have h := h e21
              exact hQ _ _ h
          · have h := h.2
            refine ⟨?_, ?_⟩
            · have h := h.1
              intro e22
              have h := h e22
              exact hQ _ _ h
            · have h := h.2
              refine ⟨?_, ?_⟩
              · have h := h.1
                intro e23
                have h := h e23
                exact hQ _ _ h
              · have h := h.2
                refine ⟨?_, ?_⟩
                · have h := h.1
                  intro e24
                  have h := h e24
                  exact hQ _ _ h
                · have h := h.2
                  intro e25 e26 e27 e28 e29 e30 e31 e32
                  have h := h e25 e26 e27 e28 e29 e30 e31 e32
                  exact hQ _ _ h
set_option maxRecDepth 100000 in
set_option maxHeartbeats 4000000 in
theorem jfX3_join {I : kx_S → Prop} (W : fw_ I []) {Q : Int32 → kx_S → Prop} (hQ : ∀ y0 y1, I y1 → Q y0 y1) : ∀ (l0 : Int32) (l1 : Int32) (l2 : Int32) (σ : kx_S), I σ → vX3_join l0 l1 l2 σ Q := by
  intro l0 l1 l2 σ i
  unfold vX3_join
  intro v1 e1
  refine ⟨?_, ?_⟩
  · intro e2
    refine ⟨?_, ?_⟩
    · intro e3
      exact hQ _ _ i
    · intro e4
      refine ⟨?_, ?_⟩
      · intro e5
        exact hQ _ _ i
      · intro e6
        exact hQ _ _ i
  · refine ⟨?_, ?_⟩
    · intro e7
      refine ⟨?_, ?_⟩
      · intro e8
        exact hQ _ _ i
      · intro e9
        refine ⟨?_, ?_⟩
        · intro e10
          exact hQ _ _ i
        · intro e11
          exact hQ _ _ i
    · refine ⟨?_, ?_⟩
      · intro e12
        refine ⟨?_, ?_⟩
        · intro e13
          exact hQ _ _ i
        · intro e14
          exact hQ _ _ i
      · refine ⟨?_, ?_⟩
        · intro e15
          refine ⟨?_, ?_⟩
          · intro e16
            exact hQ _ _ i
          · intro e17
            exact hQ _ _ i
        · refine ⟨?_, ?_⟩
          · intro e18
            refine ⟨?_, ?_⟩
            · intro e19
              intro e20
              exact hQ _ _ i
            · intro e21
              exact hQ _ _ i
          · refine ⟨?_, ?_⟩
            · intro e22
              exact hQ _ _ i
            · refine ⟨?_, ?_⟩
              · intro e23
                exact hQ _ _ i
              · refine ⟨?_, ?_⟩
                · intro e24
                  exact hQ _ _ i
                · intro e25 e26 e27 e28 e29 e30 e31 e32
                  exact hQ _ _ i
def vX3_step_52 (Q : kx_S → Prop) (s0 : Int32) (s1 : Nat) (σ : kx_S) : Prop := xt σ s1 = 5 → vX3_push s1 s0 σ (fun σ1 => Q σ1)
set_option maxRecDepth 100000 in
set_option maxHeartbeats 4000000 in
theorem jcX3_step_52 {Q Q' Q'' : kx_S → Prop} (hQ : ∀ y0, Q y0 → Q' y0 → Q'' y0) : ∀ (s0 : Int32) (s1 : Nat) (σ : kx_S), wX3_step_52 Q s0 s1 σ → vX3_step_52 Q' s0 s1 σ → wX3_step_52 Q'' s0 s1 σ := by
  intro s0 s1 σ h v
  unfold wX3_step_52 at h
  unfold vX3_step_52 at v
  unfold wX3_step_52
  refine ⟨h.1, ?_⟩
  have v := v h.1
  have h := h.2
  refine jcX3_push ?_ _ _ _ h v
  intro σ1 h v
  exact hQ _ h v
set_option maxRecDepth 100000 in
set_option maxHeartbeats 4000000 in
theorem jaX3_step_52 {Q Q' : kx_S → Prop} (hQ : ∀ y0, Q y0 → Q' y0) : ∀ (s0 : Int32) (s1 : Nat) (σ : kx_S), wX3_step_52 Q s0 s1 σ → vX3_step_52 Q' s0 s1 σ := by
  intro s0 s1 σ h
  unfold wX3_step_52 at h
  unfold vX3_step_52
  intro e1
  have h := h.2
  refine jaX3_push ?_ _ _ _ h
  intro σ1 h
  exact hQ _ h
set_option maxRecDepth 100000 in
set_option maxHeartbeats 4000000 in
theorem jfX3_step_52 {I : kx_S → Prop} (W : fw_ I [82, 1001]) {Q : kx_S → Prop} (hQ : ∀ y0, I y0 → Q y0) : ∀ (s0 : Int32) (s1 : Nat) (σ : kx_S), I σ → vX3_step_52 Q s0 s1 σ := by
  intro s0 s1 σ i
  unfold vX3_step_52
  intro e1
  refine jfX3_push (I := I) (fw_sub W (by decide)) ?_ _ _ _ i
  intro σ1 iσ1
  exact hQ _ iσ1
def vX3_step_81 (Q : kx_S → Prop) (s0 : Int32) (s1 : Int32) (s2 : Nat) (σ : kx_S) : Prop := xt σ s2 = 5 → ((narrow .boolean (.int (s1 ||| s0)) = .int (s1 ||| s0) ∧ fits .boolean (.int (s1 ||| s0)) = true)) → ∀ σ5, σ5 = xsi σ 83 s2 (s1 ||| s0) → Q σ5
set_option maxRecDepth 100000 in
set_option maxHeartbeats 4000000 in
theorem jcX3_step_81 {Q Q' Q'' : kx_S → Prop} (hQ : ∀ y0, Q y0 → Q' y0 → Q'' y0) : ∀ (s0 : Int32) (s1 : Int32) (s2 : Nat) (σ : kx_S), wX3_step_81 Q s0 s1 s2 σ → vX3_step_81 Q' s0 s1 s2 σ → wX3_step_81 Q'' s0 s1 s2 σ := by
  intro s0 s1 s2 σ h v
  unfold wX3_step_81 at h
  unfold vX3_step_81 at v
  unfold wX3_step_81
  refine ⟨h.1, ?_⟩
  have v := v h.1
  have h := h.2
  refine ⟨h.1, ?_⟩
  have v := v h.1
  have h := h.2
  intro σ5 e3
  have h := h σ5 e3
  have v := v σ5 e3
  exact hQ _ h v
set_option maxRecDepth 100000 in
set_option maxHeartbeats 4000000 in
theorem jaX3_step_81 {Q Q' : kx_S → Prop} (hQ : ∀ y0, Q y0 → Q' y0) : ∀ (s0 : Int32) (s1 : Int32) (s2 : Nat) (σ : kx_S), wX3_step_81 Q s0 s1 s2 σ → vX3_step_81 Q' s0 s1 s2 σ := by
  intro s0 s1 s2 σ h
  unfold wX3_step_81 at h
  unfold vX3_step_81
  intro e1
  have h := h.2
  intro e2
  have h := h.2
  intro σ5 e3
  have h := h σ5 e3
  exact hQ _ h
set_option maxRecDepth 100000 in
set_option maxHeartbeats 4000000 in
theorem jfX3_step_81 {I : kx_S → Prop} (W : fw_ I [83]) {Q : kx_S → Prop} (hQ : ∀ y0, I y0 → Q y0) : ∀ (s0 : Int32) (s1 : Int32) (s2 : Nat) (σ : kx_S), I σ → vX3_step_81 Q s0 s1 s2 σ := by
  intro s0 s1 s2 σ i
  unfold vX3_step_81
  intro e1
  intro e2
  intro σ5 e3
  have iσ5 : I σ5 := by rw [e3]; exact ((W _ i).1 83 (by decide)).1 _ _
  exact hQ _ iσ5
def vX3_step (l0 : Nat) (l1 : Int32) (σ : kx_S) (Q : kx_S → Prop) : Prop := ((l1 < 0 → ((l1 < (-7) → ((¬ l1 = (-16) → ((¬ l1 = (-17) → ((¬ l1 = (-18) → xt σ l0 = 5 → vX3_pop l0 σ (fun r13 σ12 => xt σ12 l0 = 5 → vX3_pop l0 σ12 (fun r16 σ15 => vX3_join l1 r16 r13 σ15 (fun r19 σ18 => xt σ18 l0 = 5 → vX3_push l0 r19 σ18 (fun σ20 => Q σ20))))) ∧ (l1 = (-18) → xt σ l0 = 5 → vX3_pop l0 σ (fun r24 σ23 => xt σ23 l0 = 5 → ∀ σ26, σ26 = xsl σ23 84 l0 ((xl σ 84 l0) + r24.toInt64) → Q σ26)))) ∧ (l1 = (-17) → xt σ l0 = 5 → vX3_pop l0 σ (fun r30 σ29 => ((r30 = 0 → vX3_step_81 Q 0 (xi σ 83 l0) l0 σ29) ∧ (¬ (r30 = 0) → vX3_step_81 Q 1 (xi σ 83 l0) l0 σ29)))))) ∧ (l1 = (-16) → xt σ l0 = 5 → vX3_pop l0 σ (fun r33 σ32 => ((¬ r33 = 0 → vX3_step_52 Q 0 l0 σ32) ∧ (r33 = 0 → vX3_step_52 Q 1 l0 σ32)))))) ∧ (¬ (l1 < (-7)) → xt σ l0 = 5 → ∀ a37, xr σ 81 l0 = some a37 → xt σ a37 = 20 → vp_in ((-1) - l1) (xn σ a37) → vX3_push l0 (xai σ a37 ((-1) - l1).toNatClampNeg) σ (fun σ41 => Q σ41)))) ∧ (¬ (l1 < 0) → xt σ l0 = 5 → vX3_push l0 l1 σ (fun σ42 => Q σ42)))
set_option maxRecDepth 100000 in
set_option maxHeartbeats 4000000 in
theorem jcX3_step {Q Q' Q'' : kx_S → Prop} (hQ : ∀ y0, Q y0 → Q' y0 → Q'' y0) : ∀ (l0 : Nat) (l1 : Int32) (σ : kx_S), wX3_step l0 l1 σ Q → vX3_step l0 l1 σ Q' → wX3_step l0 l1 σ Q'' := by
  intro l0 l1 σ h v
  unfold wX3_step at h
  unfold vX3_step at v
  unfold wX3_step
  refine ⟨?_, ?_⟩
  · have h := h.1
    have v := v.1
    intro e1
    have h := h e1
    have v := v e1
    refine ⟨?_, ?_⟩
    · have h := h.1
      have v := v.1
      intro e2
      have h := h e2
      have v := v e2
      refine ⟨?_, ?_⟩
      · have h := h.1
        have v := v.1
        intro e3
        have h := h e3
        have v := v e3
        refine ⟨?_, ?_⟩
        · have h := h.1
          have v := v.1
          intro e4
          have h := h e4
          have v := v e4
          refine ⟨?_, ?_⟩
          · have h := h.1
            have v := v.1
            intro e5
            have h := h e5
            have v := v e5
            refine ⟨h.1, ?_⟩
            have v := v h.1
            have h := h.2
            refine jcX3_pop ?_ _ _ h v
            intro r13 σ12 h v
            refine ⟨h.1, ?_⟩
            have v := v h.1
            have h := h.2
            refine jcX3_pop ?_ _ _ h v
            intro r16 σ15 h v
            refine jcX3_join ?_ _ _ _ _ h v
            intro r19 σ18 h v
            refine ⟨h.1, ?_⟩
            have v := v h.1
            have h := h.2
            refine jcX3_push ?_ _ _ _ h v
            intro σ20 h v
            exact hQ _ h v
          · have h := h.2
            have v := v.2
            intro e9
            have h := h e9
            have v := v e9
            refine ⟨h.1, ?_⟩
            have v := v h.1
            have h := h.2
            refine jcX3_pop ?_ _ _ h v
            intro r24 σ23 h v
            refine ⟨h.1, ?_⟩
            have v := v h.1
            have h := h.2
            intro σ26 e12
            have h := h σ26 e12
            have v := v σ26 e12
            exact hQ _ h v
        · have h := h.2
          have v := v.2
          intro e13
          have h := h e13
          have v := v e13
          refine ⟨h.1, ?_⟩
          have v := v h.1
          have h := h.2
          refine jcX3_pop ?_ _ _ h v
          intro r30 σ29 h v
          refine ⟨?_, ?_⟩
          · have h := h.1
            have v := v.1
            intro e15
            have h := h e15
            have v := v e15
            exact jcX3_step_81 hQ _ _ _ _ h v
          · have h := h.2
            have v := v.2
            intro e16
            have h := h e16
            have v := v e16
            exact jcX3_step_81 hQ _ _ _ _ h v
      · have h := h.2
        have v := v.2
        intro e17
        have h := h e17
        have v := v e17
        refine ⟨h.1, ?_⟩
        have v := v h.1
        have h := h.2
        refine jcX3_pop ?_ _ _ h v
        intro r33 σ32 h v
        refine ⟨?_, ?_⟩
        · have h := h.1
          have v := v.1
          intro e19
          have h := h e19
          have v := v e19
          exact jcX3_step_52 hQ _ _ _ h v
        · have h := h.2
          have v := v.2
          intro e20
          have h := h e20
          have v := v e20
          exact jcX3_step_52 hQ _ _ _ h v
    · have h := h.2
      have v := v.2
      intro e21
      have h := h e21
      have v := v e21
      refine ⟨h.1, ?_⟩
      have v := v h.1
      have h := h.2
      obtain ⟨a37, e23, h⟩ := h
      refine ⟨a37, e23, ?_⟩
      have v := v a37 e23
      refine ⟨h.1, ?_⟩
      have v := v h.1
      have h := h.2
      refine ⟨h.1, ?_⟩
      have v := v h.1
      have h := h.2
      refine jcX3_push ?_ _ _ _ h v
      intro σ41 h v
      exact hQ _ h v
  · have h := h.2
    have v := v.2
    intro e26
    have h := h e26
    have v := v e26
    refine ⟨h.1, ?_⟩
    have v := v h.1
    have h := h.2
    refine jcX3_push ?_ _ _ _ h v
    intro σ42 h v
    exact hQ _ h v
set_option maxRecDepth 100000 in
set_option maxHeartbeats 4000000 in
theorem jaX3_step {Q Q' : kx_S → Prop} (hQ : ∀ y0, Q y0 → Q' y0) : ∀ (l0 : Nat) (l1 : Int32) (σ : kx_S), wX3_step l0 l1 σ Q → vX3_step l0 l1 σ Q' := by
  intro l0 l1 σ h
  unfold wX3_step at h
  unfold vX3_step
  refine ⟨?_, ?_⟩
  · have h := h.1
    intro e1
    have h := h e1
    refine ⟨?_, ?_⟩
    · have h := h.1
      intro e2
      have h := h e2
      refine ⟨?_, ?_⟩
      · have h := h.1
        intro e3
        have h := h e3
        refine ⟨?_, ?_⟩
        · have h := h.1
          intro e4
          have h := h e4
          refine ⟨?_, ?_⟩
          · have h := h.1
            intro e5
            have h := h e5
            intro e6
            have h := h.2
            refine jaX3_pop ?_ _ _ h
            intro r13 σ12 h
            intro e7
            have h := h.2
            refine jaX3_pop ?_ _ _ h
            intro r16 σ15 h
            refine jaX3_join ?_ _ _ _ _ h
            intro r19 σ18 h
            intro e8
            have h := h.2
            refine jaX3_push ?_ _ _ _ h
            intro σ20 h
            exact hQ _ h
          · have h := h.2
            intro e9
            have h := h e9
            intro e10
            have h := h.2
            refine jaX3_pop ?_ _ _ h
            intro r24 σ23 h
            intro e11
            have h := h.2
            intro σ26 e12
            have h := h σ26 e12
            exact hQ _ h
        · have h := h.2
          intro e13
          have h := h e13
          intro e14
          have h := h.2
          refine jaX3_pop ?_ _ _ h
          intro r30 σ29 h
          refine ⟨?_, ?_⟩
          · have h := h.1
            intro e15
            have h := h e15
            exact jaX3_step_81 hQ _ _ _ _ h
          · have h := h.2
            intro e16
            have h := h e16
            exact jaX3_step_81 hQ _ _ _ _ h
      · have h := h.2
        intro e17
        have h := h e17
        intro e18
        have h := h.2
        refine jaX3_pop ?_ _ _ h
        intro r33 σ32 h
        refine ⟨?_, ?_⟩
        · have h := h.1
          intro e19
          have h := h e19
          exact jaX3_step_52 hQ _ _ _ h
        · have h := h.2
          intro e20
          have h := h e20
          exact jaX3_step_52 hQ _ _ _ h
    · have h := h.2
      intro e21
      have h := h e21
      intro e22
      have h := h.2
      obtain ⟨a37', e23, h⟩ := h
      intro a37 e24
      have x9 : a37' = a37 := Option.some.inj (e23.symm.trans e24)
      rw [x9] at h
      intro e25
      have h := h.2
      intro e26
      have h := h.2
      refine jaX3_push ?_ _ _ _ h
      intro σ41 h
      exact hQ _ h
  · have h := h.2
    intro e27
    have h := h e27
    intro e28
    have h := h.2
    refine jaX3_push ?_ _ _ _ h
    intro σ42 h
    exact hQ _ h
set_option maxRecDepth 100000 in
set_option maxHeartbeats 4000000 in
theorem jfX3_step {I : kx_S → Prop} (W : fw_ I [82, 83, 84, 1001]) {Q : kx_S → Prop} (hQ : ∀ y0, I y0 → Q y0) : ∀ (l0 : Nat) (l1 : Int32) (σ : kx_S), I σ → vX3_step l0 l1 σ Q := by
  intro l0 l1 σ i
  unfold vX3_step
  refine ⟨?_, ?_⟩
  · intro e1
    refine ⟨?_, ?_⟩
    · intro e2
      refine ⟨?_, ?_⟩
      · intro e3
        refine ⟨?_, ?_⟩
        · intro e4
          refine ⟨?_, ?_⟩
          · intro e5
            intro e6
            refine jfX3_pop (I := I) (fw_sub W (by decide)) ?_ _ _ i
            intro r13 σ12 iσ12
            intro e7
            refine jfX3_pop (I := I) (fw_sub W (by decide)) ?_ _ _ iσ12
            intro r16 σ15 iσ15
            refine jfX3_join (I := I) (fw_sub W (by decide)) ?_ _ _ _ _ iσ15
            intro r19 σ18 iσ18
            intro e8
            refine jfX3_push (I := I) (fw_sub W (by decide)) ?_ _ _ _ iσ18
            intro σ20 iσ20
            exact hQ _ iσ20
          · intro e9
            intro e10
            refine jfX3_pop (I := I) (fw_sub W (by decide)) ?_ _ _ i
            intro r24 σ23 iσ23
            intro e11
            intro σ26 e12
            have iσ26 : I σ26 := by rw [e12]; exact ((W _ iσ23).1 84 (by decide)).2.2 _ _
            exact hQ _ iσ26
        · intro e13
          intro e14
          refine jfX3_pop (I := I) (fw_sub W (by decide)) ?_ _ _ i
          intro r30 σ29 iσ29
          refine ⟨?_, ?_⟩
          · intro e15
            exact jfX3_step_81 (I := I) (fw_sub W (by decide)) hQ _ _ _ _ iσ29
          · intro e16
            exact jfX3_step_81 (I := I) (fw_sub W (by decide)) hQ _ _ _ _ iσ29
      · intro e17
        intro e18
        refine jfX3_pop (I := I) (fw_sub W (by decide)) ?_ _ _ i
        intro r33 σ32 iσ32
        refine ⟨?_, ?_⟩
        · intro e19
          exact jfX3_step_52 (I := I) (fw_sub W (by decide)) hQ _ _ _ iσ32
        · intro e20
          exact jfX3_step_52 (I := I) (fw_sub W (by decide)) hQ _ _ _ iσ32
    · intro e21
      intro e22
      intro a37 e23
      intro e24
      intro e25
      refine jfX3_push (I := I) (fw_sub W (by decide)) ?_ _ _ _ i
      intro σ41 iσ41
      exact hQ _ iσ41
  · intro e26
    intro e27
    refine jfX3_push (I := I) (fw_sub W (by decide)) ?_ _ _ _ i
    intro σ42 iσ42
    exact hQ _ iσ42
def vX3_weigh_91 (Q : kx_S → Prop) : Nat → Nat → (Option Nat) → Int32 → kx_S → Prop
  | 0, _, _, _, _ => True
  | n + 1, l0, l1, l5, σ => ∀ a1, l1 = some a1 → xt σ a1 = 6 → ∀ a4, xr σ 97 a1 = some a4 → xt σ a4 = 20 → (((nI (xn σ a4)) ≤ l5 → Q σ) ∧ (¬ ((nI (xn σ a4)) ≤ l5) → ∀ a8, l1 = some a8 → xt σ a8 = 6 → ∀ a11, xr σ 97 a8 = some a11 → xt σ a11 = 20 → vp_in l5 (xn σ a11) → xt σ l0 = 5 → vX3_step l0 (xai σ a11 l5.toNatClampNeg) σ (fun σ15 => ∀ v17 : Int32, v17 = l5 + 1 → vX3_weigh_91 Q n l0 l1 v17 σ15)))
set_option maxRecDepth 100000 in
set_option maxHeartbeats 4000000 in
theorem jcX3_weigh_91 {Q Q' Q'' : kx_S → Prop} (hQ : ∀ y0, Q y0 → Q' y0 → Q'' y0) : ∀ (n : Nat) (l0 : Nat) (l1 : (Option Nat)) (l5 : Int32) (σ : kx_S), wX3_weigh_91 Q n l0 l1 l5 σ → vX3_weigh_91 Q' n l0 l1 l5 σ → wX3_weigh_91 Q'' n l0 l1 l5 σ := by
  intro n
  induction n with
  | zero => intro l0 l1 l5 σ h; exact h.elim
  | succ n ih =>
    intro l0 l1 l5 σ h v
    unfold wX3_weigh_91 at h
    unfold vX3_weigh_91 at v
    unfold wX3_weigh_91
    obtain ⟨a1, e1, h⟩ := h
    refine ⟨a1, e1, ?_⟩
    have v := v a1 e1
    refine ⟨h.1, ?_⟩
    have v := v h.1
    have h := h.2
    obtain ⟨a4, e3, h⟩ := h
    refine ⟨a4, e3, ?_⟩
    have v := v a4 e3
    refine ⟨h.1, ?_⟩
    have v := v h.1
    have h := h.2
    refine ⟨?_, ?_⟩
    · have h := h.1
      have v := v.1
      intro e5
      have h := h e5
      have v := v e5
      exact hQ _ h v
    · have h := h.2
      have v := v.2
      intro e6
      have h := h e6
      have v := v e6
      obtain ⟨a8, e7, h⟩ := h
      refine ⟨a8, e7, ?_⟩
      have v := v a8 e7
      refine ⟨h.1, ?_⟩
      have v := v h.1
      have h := h.2
      obtain ⟨a11, e9, h⟩ := h
      refine ⟨a11, e9, ?_⟩
      have v := v a11 e9
      refine ⟨h.1, ?_⟩
      have v := v h.1
      have h := h.2
      refine ⟨h.1, ?_⟩
      have v := v h.1
      have h := h.2
      refine ⟨h.1, ?_⟩
      have v := v h.1
      have h := h.2
      refine jcX3_step ?_ _ _ _ h v
      intro σ15 h v
      intro v17 e13
      have h := h v17 e13
      have v := v v17 e13
      exact ih _ _ _ _ h v
set_option maxRecDepth 100000 in
set_option maxHeartbeats 4000000 in
theorem jaX3_weigh_91 {Q Q' : kx_S → Prop} (hQ : ∀ y0, Q y0 → Q' y0) : ∀ (n m : Nat) (l0 : Nat) (l1 : (Option Nat)) (l5 : Int32) (σ : kx_S), wX3_weigh_91 Q n l0 l1 l5 σ → vX3_weigh_91 Q' m l0 l1 l5 σ := by
  intro n
  induction n with
  | zero => intro m l0 l1 l5 σ h; exact h.elim
  | succ n ih =>
    intro m l0 l1 l5 σ h
    cases m with
    | zero => exact trivial
    | succ m =>
      unfold wX3_weigh_91 at h
      unfold vX3_weigh_91
      obtain ⟨a1', e1, h⟩ := h
      intro a1 e2
      have x9 : a1' = a1 := Option.some.inj (e1.symm.trans e2)
      rw [x9] at h
      intro e3
      have h := h.2
      obtain ⟨a4', e4, h⟩ := h
      intro a4 e5
      have x9 : a4' = a4 := Option.some.inj (e4.symm.trans e5)
      rw [x9] at h
      intro e6
      have h := h.2
      refine ⟨?_, ?_⟩
      · have h := h.1
        intro e7
        have h := h e7
        exact hQ _ h
      · have h := h.2
        intro e8
        have h := h e8
        obtain ⟨a8', e9, h⟩ := h
        intro a8 e10
        have x9 : a8' = a8 := Option.some.inj (e9.symm.trans e10)
        rw [x9] at h
        intro e11
        have h := h.2
        obtain ⟨a11', e12, h⟩ := h
        intro a11 e13
        have x9 : a11' = a11 := Option.some.inj (e12.symm.trans e13)
        rw [x9] at h
        intro e14
        have h := h.2
        intro e15
        have h := h.2
        intro e16
        have h := h.2
        refine jaX3_step ?_ _ _ _ h
        intro σ15 h
        intro v17 e17
        have h := h v17 e17
        exact ih m _ _ _ _ h
set_option maxRecDepth 100000 in
set_option maxHeartbeats 4000000 in
theorem jfX3_weigh_91 {I : kx_S → Prop} (W : fw_ I [82, 83, 84, 1001]) {Q : kx_S → Prop} (hQ : ∀ y0, I y0 → Q y0) : ∀ (n : Nat) (l0 : Nat) (l1 : (Option Nat)) (l5 : Int32) (σ : kx_S), I σ → vX3_weigh_91 Q n l0 l1 l5 σ := by
  intro n
  induction n with
  | zero => intro l0 l1 l5 σ i; exact trivial
  | succ n ih =>
    intro l0 l1 l5 σ i
    unfold vX3_weigh_91
    intro a1 e1
    intro e2
    intro a4 e3
    intro e4
    refine ⟨?_, ?_⟩
    · intro e5
      exact hQ _ i
    · intro e6
      intro a8 e7
      intro e8
      intro a11 e9
      intro e10
      intro e11
      intro e12
      refine jfX3_step (I := I) (fw_sub W (by decide)) ?_ _ _ _ i
      intro σ15 iσ15
      intro v17 e13
      exact ih _ _ _ _ iσ15
def vX3_weigh (l0 : Nat) (l1 : Option Nat) (l2 : Nat) (l3 : Int32) (l4 : Int32) (σ : kx_S) (Q : kx_S → Prop) : Prop := xt σ l0 = 5 → ∀ σ19, σ19 = xsi σ 83 l0 0 → ∀ σ21, σ21 = xsl σ19 84 l0 (0 : Int64) → ∀ σ23, σ23 = xsi σ21 82 l0 0 → ((∀ a26, l1 = some a26 → xt σ23 l2 = 8 → vX3_name l0 (-1) (xi σ23 129 l2) σ23 (fun σ28 => xt σ28 l2 = 8 → xt σ28 l0 = 5 → vX3_name l0 (-2) (xi σ28 130 l2) σ28 (fun σ30 => xt σ30 l2 = 8 → xt σ30 l0 = 5 → vX3_name l0 (-3) (xi σ30 131 l2) σ30 (fun σ33 => xt σ33 l0 = 5 → vX3_name l0 (-4) (l4 - l4 / 24 * 24) σ33 (fun σ35 => xt σ35 l0 = 5 → vX3_name l0 (-5) (l4 / 24) σ35 (fun σ37 => xt σ37 l0 = 5 → vX3_name l0 (-6) l3 σ37 (fun σ39 => xt σ39 l2 = 8 → xt σ39 l0 = 5 → vX3_name l0 (-7) (xi σ39 135 l2) σ39 (fun σ42 => ∀ j, vX3_weigh_91 Q j l0 (some a26) 0 σ42)))))))) ∧ (l1 = none → Q σ23))
set_option maxRecDepth 100000 in
set_option maxHeartbeats 4000000 in
theorem jcX3_weigh {Q Q' Q'' : kx_S → Prop} (hQ : ∀ y0, Q y0 → Q' y0 → Q'' y0) : ∀ (l0 : Nat) (l1 : Option Nat) (l2 : Nat) (l3 : Int32) (l4 : Int32) (σ : kx_S), wX3_weigh l0 l1 l2 l3 l4 σ Q → vX3_weigh l0 l1 l2 l3 l4 σ Q' → wX3_weigh l0 l1 l2 l3 l4 σ Q'' := by
  intro l0 l1 l2 l3 l4 σ h v
  unfold wX3_weigh at h
  unfold vX3_weigh at v
  unfold wX3_weigh
  refine ⟨h.1, ?_⟩
  have v := v h.1
  have h := h.2
  intro σ19 e2
  have h := h σ19 e2
  have v := v σ19 e2
  intro σ21 e3
  have h := h σ21 e3
  have v := v σ21 e3
  intro σ23 e4
  have h := h σ23 e4
  have v := v σ23 e4
  refine ⟨?_, ?_⟩
  · have h := h.1
    have v := v.1
    intro a26 e5
    have h := h a26 e5
    have v := v a26 e5
    refine ⟨h.1, ?_⟩
    have v := v h.1
    have h := h.2
    refine jcX3_name ?_ _ _ _ _ h v
    intro σ28 h v
    refine ⟨h.1, ?_⟩
    have v := v h.1
    have h := h.2
    refine ⟨h.1, ?_⟩
    have v := v h.1
    have h := h.2
    refine jcX3_name ?_ _ _ _ _ h v
    intro σ30 h v
    refine ⟨h.1, ?_⟩
    have v := v h.1
    have h := h.2
    refine ⟨h.1, ?_⟩
    have v := v h.1
    have h := h.2
    refine jcX3_name ?_ _ _ _ _ h v
    intro σ33 h v
    refine ⟨h.1, ?_⟩
    have v := v h.1
    have h := h.2
    refine jcX3_name ?_ _ _ _ _ h v
    intro σ35 h v
    refine ⟨h.1, ?_⟩
    have v := v h.1
    have h := h.2
    refine jcX3_name ?_ _ _ _ _ h v
    intro σ37 h v
    refine ⟨h.1, ?_⟩
    have v := v h.1
    have h := h.2
    refine jcX3_name ?_ _ _ _ _ h v
    intro σ39 h v
    refine ⟨h.1, ?_⟩
    have v := v h.1
    have h := h.2
    refine ⟨h.1, ?_⟩
    have v := v h.1
    have h := h.2
    refine jcX3_name ?_ _ _ _ _ h v
    intro σ42 h v
    obtain ⟨j, h⟩ := h
    refine ⟨j, ?_⟩
    have v := v j
    exact jcX3_weigh_91 hQ _ _ _ _ _ h v
  · have h := h.2
    have v := v.2
    intro e16
    have h := h e16
    have v := v e16
    exact hQ _ h v
set_option maxRecDepth 100000 in
set_option maxHeartbeats 4000000 in
theorem jaX3_weigh {Q Q' : kx_S → Prop} (hQ : ∀ y0, Q y0 → Q' y0) : ∀ (l0 : Nat) (l1 : Option Nat) (l2 : Nat) (l3 : Int32) (l4 : Int32) (σ : kx_S), wX3_weigh l0 l1 l2 l3 l4 σ Q → vX3_weigh l0 l1 l2 l3 l4 σ Q' := by
  intro l0 l1 l2 l3 l4 σ h
  unfold wX3_weigh at h
  unfold vX3_weigh
  intro e1
  have h := h.2
  intro σ19 e2
  have h := h σ19 e2
  intro σ21 e3
  have h := h σ21 e3
  intro σ23 e4
  have h := h σ23 e4
  refine ⟨?_, ?_⟩
  · have h := h.1
    intro a26 e5
    have h := h a26 e5
    intro e6
    have h := h.2
    refine jaX3_name ?_ _ _ _ _ h
    intro σ28 h
    intro e7
    have h := h.2
    intro e8
    have h := h.2
    refine jaX3_name ?_ _ _ _ _ h
    intro σ30 h
    intro e9
    have h := h.2
    intro e10
    have h := h.2
    refine jaX3_name ?_ _ _ _ _ h
    intro σ33 h
    intro e11
    have h := h.2
    refine jaX3_name ?_ _ _ _ _ h
    intro σ35 h
    intro e12
    have h := h.2
    refine jaX3_name ?_ _ _ _ _ h
    intro σ37 h
    intro e13
    have h := h.2
    refine jaX3_name ?_ _ _ _ _ h
    intro σ39 h
    intro e14
    have h := h.2
    intro e15
    have h := h.2
    refine jaX3_name ?_ _ _ _ _ h
    intro σ42 h
    obtain ⟨j, h⟩ := h
    intro j9
    exact jaX3_weigh_91 hQ _ j9 _ _ _ _ h
  · have h := h.2
    intro e16
    have h := h e16
    exact hQ _ h
set_option maxRecDepth 100000 in
set_option maxHeartbeats 4000000 in
theorem jfX3_weigh {I : kx_S → Prop} (W : fw_ I [82, 83, 84, 1001]) {Q : kx_S → Prop} (hQ : ∀ y0, I y0 → Q y0) : ∀ (l0 : Nat) (l1 : Option Nat) (l2 : Nat) (l3 : Int32) (l4 : Int32) (σ : kx_S), I σ → vX3_weigh l0 l1 l2 l3 l4 σ Q := by
  intro l0 l1 l2 l3 l4 σ i
  unfold vX3_weigh
  intro e1
  intro σ19 e2
  have iσ19 : I σ19 := by rw [e2]; exact ((W _ i).1 83 (by decide)).1 _ _
  intro σ21 e3
  have iσ21 : I σ21 := by rw [e3]; exact ((W _ iσ19).1 84 (by decide)).2.2 _ _
  intro σ23 e4
  have iσ23 : I σ23 := by rw [e4]; exact ((W _ iσ21).1 82 (by decide)).1 _ _
  refine ⟨?_, ?_⟩
  · intro a26 e5
    intro e6
    refine jfX3_name (I := I) (fw_sub W (by decide)) ?_ _ _ _ _ iσ23
    intro σ28 iσ28
    intro e7
    intro e8
    refine jfX3_name (I := I) (fw_sub W (by decide)) ?_ _ _ _ _ iσ28
    intro σ30 iσ30
    intro e9
    intro e10
    refine jfX3_name (I := I) (fw_sub W (by decide)) ?_ _ _ _ _ iσ30
    intro σ33 iσ33
    intro e11
    refine jfX3_name (I := I) (fw_sub W (by decide)) ?_ _ _ _ _ iσ33
    intro σ35 iσ35
    intro e12
    refine jfX3_name (I := I) (fw_sub W (by decide)) ?_ _ _ _ _ iσ35
    intro σ37 iσ37
    intro e13
    refine jfX3_name (I := I) (fw_sub W (by decide)) ?_ _ _ _ _ iσ37
    intro σ39 iσ39
    intro e14
    intro e15
    refine jfX3_name (I := I) (fw_sub W (by decide)) ?_ _ _ _ _ iσ39
    intro σ42 iσ42
    intro j
    exact jfX3_weigh_91 (I := I) (fw_sub W (by decide)) hQ _ _ _ _ _ iσ42
  · intro e16
    exact hQ _ iσ23
def vX4_init (l0 : Nat) (l1 : Int32) (l2 : Nat) (σ : kx_S) (Q : kx_S → Prop) : Prop := xt σ l0 = 6 → ∀ σ2, σ2 = xsi σ 96 l0 l1 → ∀ σ4, σ4 = xsr σ2 97 l0 (some l2) → Q σ4
set_option maxRecDepth 100000 in
set_option maxHeartbeats 4000000 in
theorem jcX4_init {Q Q' Q'' : kx_S → Prop} (hQ : ∀ y0, Q y0 → Q' y0 → Q'' y0) : ∀ (l0 : Nat) (l1 : Int32) (l2 : Nat) (σ : kx_S), wX4_init l0 l1 l2 σ Q → vX4_init l0 l1 l2 σ Q' → wX4_init l0 l1 l2 σ Q'' := by
  intro l0 l1 l2 σ h v
  unfold wX4_init at h
  unfold vX4_init at v
  unfold wX4_init
  refine ⟨h.1, ?_⟩
  have v := v h.1
  have h := h.2
  intro σ2 e2
  have h := h σ2 e2
  have v := v σ2 e2
  intro σ4 e3
  have h := h σ4 e3
  have v := v σ4 e3
  exact hQ _ h v
set_option maxRecDepth 100000 in
set_option maxHeartbeats 4000000 in
theorem jaX4_init {Q Q' : kx_S → Prop} (hQ : ∀ y0, Q y0 → Q' y0) : ∀ (l0 : Nat) (l1 : Int32) (l2 : Nat) (σ : kx_S), wX4_init l0 l1 l2 σ Q → vX4_init l0 l1 l2 σ Q' := by
  intro l0 l1 l2 σ h
  unfold wX4_init at h
  unfold vX4_init
  intro e1
  have h := h.2
  intro σ2 e2
  have h := h σ2 e2
  intro σ4 e3
  have h := h σ4 e3
  exact hQ _ h
set_option maxRecDepth 100000 in
set_option maxHeartbeats 4000000 in
theorem jfX4_init {I : kx_S → Prop} (W : fw_ I [96, 97]) {Q : kx_S → Prop} (hQ : ∀ y0, I y0 → Q y0) : ∀ (l0 : Nat) (l1 : Int32) (l2 : Nat) (σ : kx_S), I σ → vX4_init l0 l1 l2 σ Q := by
  intro l0 l1 l2 σ i
  unfold vX4_init
  intro e1
  intro σ2 e2
  have iσ2 : I σ2 := by rw [e2]; exact ((W _ i).1 96 (by decide)).1 _ _
  intro σ4 e3
  have iσ4 : I σ4 := by rw [e3]; exact ((W _ iσ2).1 97 (by decide)).2.1 _ _
  exact hQ _ iσ4
end

def vX12_mills_119 (k164 : Int32 → Int32 → Int32 → Int32 → Int32 → km_S → Prop) (Q : km_S → Prop) : Nat → Int32 → Int32 → Int32 → Int32 → Int32 → Int32 → km_S → Prop
  | 0, _, _, _, _, _, _, _ => True
  | n + 1, l1, l2, l3, l4, l5, l6, μ => vp_in l1 10 → (((km_a μ 29 l1.toNatClampNeg) ≤ (l6 + 1) → k164 l1 l2 l3 l4 l5 μ) ∧ (¬ ((km_a μ 29 l1.toNatClampNeg) ≤ (l6 + 1)) → vp_in (((100 * l1) + l6) + 1) 1000 → vp_in ((100 * l1) + l6) 1000 → ∀ μ16, μ16 = km_sa μ 30 ((100 * l1) + l6).toNatClampNeg (km_a μ 30 (((100 * l1) + l6) + 1).toNatClampNeg) → ∀ v17 : Int32, v17 = l6 + 1 → vX12_mills_119 k164 Q n l1 l2 l3 l4 l5 v17 μ16))
set_option maxRecDepth 100000 in
set_option maxHeartbeats 4000000 in
theorem jcX12_mills_119 {k164 k164' k164'' : Int32 → Int32 → Int32 → Int32 → Int32 → km_S → Prop} (hk164 : ∀ y0 y1 y2 y3 y4 y5, k164 y0 y1 y2 y3 y4 y5 → k164' y0 y1 y2 y3 y4 y5 → k164'' y0 y1 y2 y3 y4 y5) {Q Q' Q'' : km_S → Prop} (hQ : ∀ y0, Q y0 → Q' y0 → Q'' y0) : ∀ (n : Nat) (l1 : Int32) (l2 : Int32) (l3 : Int32) (l4 : Int32) (l5 : Int32) (l6 : Int32) (μ : km_S), wX12_mills_119 k164 Q n l1 l2 l3 l4 l5 l6 μ → vX12_mills_119 k164' Q' n l1 l2 l3 l4 l5 l6 μ → wX12_mills_119 k164'' Q'' n l1 l2 l3 l4 l5 l6 μ := by
  intro n
  induction n with
  | zero => intro l1 l2 l3 l4 l5 l6 μ h; exact h.elim
  | succ n ih =>
    intro l1 l2 l3 l4 l5 l6 μ h v
    unfold wX12_mills_119 at h
    unfold vX12_mills_119 at v
    unfold wX12_mills_119
    refine ⟨h.1, ?_⟩
    have v := v h.1
    have h := h.2
    refine ⟨?_, ?_⟩
    · have h := h.1
      have v := v.1
      intro e2
      have h := h e2
      have v := v e2
      exact hk164 _ _ _ _ _ _ h v
    · have h := h.2
      have v := v.2
      intro e3
      have h := h e3
      have v := v e3
      refine ⟨h.1, ?_⟩
      have v := v h.1
      have h := h.2
      refine ⟨h.1, ?_⟩
      have v := v h.1
      have h := h.2
      intro μ16 e6
      have h := h μ16 e6
      have v := v μ16 e6
      intro v17 e7
      have h := h v17 e7
      have v := v v17 e7
      exact ih _ _ _ _ _ _ _ h v
set_option maxRecDepth 100000 in
set_option maxHeartbeats 4000000 in
theorem jaX12_mills_119 {k164 k164' : Int32 → Int32 → Int32 → Int32 → Int32 → km_S → Prop} (hk164 : ∀ y0 y1 y2 y3 y4 y5, k164 y0 y1 y2 y3 y4 y5 → k164' y0 y1 y2 y3 y4 y5) {Q Q' : km_S → Prop} (hQ : ∀ y0, Q y0 → Q' y0) : ∀ (n m : Nat) (l1 : Int32) (l2 : Int32) (l3 : Int32) (l4 : Int32) (l5 : Int32) (l6 : Int32) (μ : km_S), wX12_mills_119 k164 Q n l1 l2 l3 l4 l5 l6 μ → vX12_mills_119 k164' Q' m l1 l2 l3 l4 l5 l6 μ := by
  intro n
  induction n with
  | zero => intro m l1 l2 l3 l4 l5 l6 μ h; exact h.elim
  | succ n ih =>
    intro m l1 l2 l3 l4 l5 l6 μ h
    cases m with
    | zero => exact trivial
    | succ m =>
      unfold wX12_mills_119 at h
      unfold vX12_mills_119
      intro e1
      have h := h.2
      refine ⟨?_, ?_⟩
      · have h := h.1
        intro e2
        have h := h e2
        exact hk164 _ _ _ _ _ _ h
      · have h := h.2
        intro e3
        have h := h e3
        intro e4
        have h := h.2
        intro e5
        have h := h.2
        intro μ16 e6
        have h := h μ16 e6
        intro v17 e7
        have h := h v17 e7
        exact ih m _ _ _ _ _ _ _ h
set_option maxRecDepth 100000 in
set_option maxHeartbeats 4000000 in
theorem jfX12_mills_119 {I : km_S → Prop} (W : gw_ I [30]) {k164 : Int32 → Int32 → Int32 → Int32 → Int32 → km_S → Prop} (hk164 : ∀ y0 y1 y2 y3 y4 y5, I y5 → k164 y0 y1 y2 y3 y4 y5) {Q : km_S → Prop} (hQ : ∀ y0, I y0 → Q y0) : ∀ (n : Nat) (l1 : Int32) (l2 : Int32) (l3 : Int32) (l4 : Int32) (l5 : Int32) (l6 : Int32) (μ : km_S), I μ → vX12_mills_119 k164 Q n l1 l2 l3 l4 l5 l6 μ := by
  intro n
  induction n with
  | zero => intro l1 l2 l3 l4 l5 l6 μ i; exact trivial
  | succ n ih =>
    intro l1 l2 l3 l4 l5 l6 μ i
    unfold vX12_mills_119
    intro e1
    refine ⟨?_, ?_⟩
    · intro e2
      exact hk164 _ _ _ _ _ _ i
    · intro e3
      intro e4
      intro e5
      intro μ16 e6
      have iμ16 : I μ16 := by rw [e6]; exact ((W _ i) 30 (by decide)).2.1 _ _
      intro v17 e7
      exact ih _ _ _ _ _ _ _ iμ16
def vX12_mills_38 (k196 : Int32 → Int32 → Int32 → km_S → Prop) (Q : km_S → Prop) : Nat → Int32 → Int32 → Int32 → Int32 → km_S → Prop
  | 0, _, _, _, _, _ => True
  | n + 1, l1, l2, l3, l4, μ => vp_in l1 10 → (((km_a μ 29 l1.toNatClampNeg) ≤ l4 → k196 l1 l2 l3 μ) ∧ (¬ ((km_a μ 29 l1.toNatClampNeg) ≤ l4) → vp_in l3 60 → (((km_a μ 50 l3.toNatClampNeg) ≤ 0 → k196 l1 l2 l3 μ) ∧ (¬ ((km_a μ 50 l3.toNatClampNeg) ≤ 0) → ((3 ≤ l2 → k196 l1 l2 l3 μ) ∧ (¬ (3 ≤ l2) → vp_in ((100 * l1) + l4) 1000 → ∀ v24, v24 = km_a μ 30 ((100 * l1) + l4).toNatClampNeg → vp_in v24 400 → vp_in l3 60 → ((¬ (km_a μ 35 v24.toNatClampNeg) = (km_a μ 48 l3.toNatClampNeg) → vX12_mills_109 (vX12_mills_38 k196 Q n) Q l1 l2 l3 l4 μ) ∧ ((km_a μ 35 v24.toNatClampNeg) = (km_a μ 48 l3.toNatClampNeg) → vp_in v24 400 → vp_in l3 60 → (((km_a μ 49 l3.toNatClampNeg) ≤ (km_a μ 36 v24.toNatClampNeg) → ∀ j, vX12_mills_119 (vX12_mills_164 (vX12_mills_38 k196 Q n) Q) Q j l1 l2 l3 l4 v24 l4 μ) ∧ (¬ ((km_a μ 49 l3.toNatClampNeg) ≤ (km_a μ 36 v24.toNatClampNeg)) → vX12_mills_109 (vX12_mills_38 k196 Q n) Q l1 l2 l3 l4 μ))))))))))
set_option maxRecDepth 100000 in
set_option maxHeartbeats 4000000 in
theorem jcX12_mills_38 {k196 k196' k196'' : Int32 → Int32 → Int32 → km_S → Prop} (hk196 : ∀ y0 y1 y2 y3, k196 y0 y1 y2 y3 → k196' y0 y1 y2 y3 → k196'' y0 y1 y2 y3) {Q Q' Q'' : km_S → Prop} (hQ : ∀ y0, Q y0 → Q' y0 → Q'' y0) : ∀ (n : Nat) (l1 : Int32) (l2 : Int32) (l3 : Int32) (l4 : Int32) (μ : km_S), wX12_mills_38 k196 Q n l1 l2 l3 l4 μ → vX12_mills_38 k196' Q' n l1 l2 l3 l4 μ → wX12_mills_38 k196'' Q'' n l1 l2 l3 l4 μ := by
  intro n
  induction n with
  | zero => intro l1 l2 l3 l4 μ h; exact h.elim
  | succ n ih =>
    intro l1 l2 l3 l4 μ h v
    unfold wX12_mills_38 at h
    unfold vX12_mills_38 at v
    unfold wX12_mills_38
    refine ⟨h.1, ?_⟩
    have v := v h.1
    have h := h.2
    refine ⟨?_, ?_⟩
    · have h := h.1
      have v := v.1
      intro e2
      have h := h e2
      have v := v e2
      exact hk196 _ _ _ _ h v
    · have h := h.2
      have v := v.2
      intro e3
      have h := h e3
      have v := v e3
      refine ⟨h.1, ?_⟩
      have v := v h.1
      have h := h.2
      refine ⟨?_, ?_⟩
      · have h := h.1
        have v := v.1
        intro e5
        have h := h e5
        have v := v e5
        exact hk196 _ _ _ _ h v
      · have h := h.2
        have v := v.2
        intro e6
        have h := h e6
        have v := v e6
        refine ⟨?_, ?_⟩
        · have h := h.1
          have v := v.1
          intro e7
          have h := h e7
          have v := v e7
          exact hk196 _ _ _ _ h v
        · have h := h.2
          have v := v.2
          intro e8
          have h := h e8
          have v := v e8
          refine ⟨h.1, ?_⟩
          have v := v h.1
          have h := h.2
          intro v24 e10
          have h := h v24 e10
          have v := v v24 e10
          refine ⟨h.1, ?_⟩
          have v := v h.1
          have h := h.2
          refine ⟨h.1, ?_⟩
          have v := v h.1
          have h := h.2
          refine ⟨?_, ?_⟩
          · have h := h.1
            have v := v.1
            intro e13
            have h := h e13
            have v := v e13
            exact jcX12_mills_109 (k38 := wX12_mills_38 k196 Q n) (k38' := vX12_mills_38 k196' Q' n) (k38'' := wX12_mills_38 k196'' Q'' n) (fun _ _ _ _ _ h v => ih _ _ _ _ _ h v) hQ _ _ _ _ _ h v
          · have h := h.2
            have v := v.2
            intro e14
            have h := h e14
            have v := v e14
            refine ⟨h.1, ?_⟩
            have v := v h.1
            have h := h.2
            refine ⟨h.1, ?_⟩
            have v := v h.1
            have h := h.2
            refine ⟨?_, ?_⟩
            · have h := h.1
              have v := v.1
              intro e17
              have h := h e17
              have v := v e17
              obtain ⟨j, h⟩ := h
              refine ⟨j, ?_⟩
              have v := v j
              exact jcX12_mills_119 (k164 := wX12_mills_164 (wX12_mills_38 k196 Q n) Q) (k164' := vX12_mills_164 (vX12_mills_38 k196' Q' n) Q') (k164'' := wX12_mills_164 (wX12_mills_38 k196'' Q'' n) Q'') (fun _ _ _ _ _ _ h v => jcX12_mills_164 (k38 := wX12_mills_38 k196 Q n) (k38' := vX12_mills_38 k196' Q' n) (k38'' := wX12_mills_38 k196'' Q'' n) (fun _ _ _ _ _ h v => ih _ _ _ _ _ h v) hQ _ _ _ _ _ _ h v) hQ _ _ _ _ _ _ _ _ h v
            · have h := h.2
              have v := v.2
              intro e18
              have h := h e18
              have v := v e18
              exact jcX12_mills_109 (k38 := wX12_mills_38 k196 Q n) (k38' := vX12_mills_38 k196' Q' n) (k38'' := wX12_mills_38 k196'' Q'' n) (fun _ _ _ _ _ h v => ih _ _ _ _ _ h v) hQ _ _ _ _ _ h v
set_option maxRecDepth 100000 in
set_option maxHeartbeats 4000000 in
theorem jaX12_mills_38 {k196 k196' : Int32 → Int32 → Int32 → km_S → Prop} (hk196 : ∀ y0 y1 y2 y3, k196 y0 y1 y2 y3 → k196' y0 y1 y2 y3) {Q Q' : km_S → Prop} (hQ : ∀ y0, Q y0 → Q' y0) : ∀ (n m : Nat) (l1 : Int32) (l2 : Int32) (l3 : Int32) (l4 : Int32) (μ : km_S), wX12_mills_38 k196 Q n l1 l2 l3 l4 μ → vX12_mills_38 k196' Q' m l1 l2 l3 l4 μ := by
  intro n
  induction n with
  | zero => intro m l1 l2 l3 l4 μ h; exact h.elim
  | succ n ih =>
    intro m l1 l2 l3 l4 μ h
    cases m with
    | zero => exact trivial
    | succ m =>
      unfold wX12_mills_38 at h
      unfold vX12_mills_38
      intro e1
      have h := h.2
      refine ⟨?_, ?_⟩
      · have h := h.1
        intro e2
        have h := h e2
        exact hk196 _ _ _ _ h
      · have h := h.2
        intro e3
        have h := h e3
        intro e4
        have h := h.2
        refine ⟨?_, ?_⟩
        · have h := h.1
          intro e5
          have h := h e5
          exact hk196 _ _ _ _ h
        · have h := h.2
          intro e6
          have h := h e6
          refine ⟨?_, ?_⟩
          · have h := h.1
            intro e7
            have h := h e7
            exact hk196 _ _ _ _ h
          · have h := h.2
            intro e8
            have h := h e8
            intro e9
            have h := h.2
            intro v24 e10
            have h := h v24 e10
            intro e11
            have h := h.2
            intro e12
            have h := h.2
            refine ⟨?_, ?_⟩
            · have h := h.1
              intro e13
              have h := h e13
              exact jaX12_mills_109 (k38 := wX12_mills_38 k196 Q n) (k38' := vX12_mills_38 k196' Q' m) (fun _ _ _ _ _ h => ih m _ _ _ _ _ h) hQ _ _ _ _ _ h
            · have h := h.2
              intro e14
              have h := h e14
              intro e15
              have h := h.2
              intro e16
              have h := h.2
              refine ⟨?_, ?_⟩
              · have h := h.1
                intro e17
                have h := h e17
                obtain ⟨j, h⟩ := h
                intro j9
                exact jaX12_mills_119 (k164 := wX12_mills_164 (wX12_mills_38 k196 Q n) Q) (k164' := vX12_mills_164 (vX12_mills_38 k196' Q' m) Q') (fun _ _ _ _ _ _ h => jaX12_mills_164 (k38 := wX12_mills_38 k196 Q n) (k38' := vX12_mills_38 k196' Q' m) (fun _ _ _ _ _ h => ih m _ _ _ _ _ h) hQ _ _ _ _ _ _ h) hQ _ j9 _ _ _ _ _ _ _ h
              · have h := h.2
                intro e18
                have h := h e18
                exact jaX12_mills_109 (k38 := wX12_mills_38 k196 Q n) (k38' := vX12_mills_38 k196' Q' m) (fun _ _ _ _ _ h => ih m _ _ _ _ _ h) hQ _ _ _ _ _ h
set_option maxRecDepth 100000 in
set_option maxHeartbeats 4000000 in
theorem jfX12_mills_38 {I : km_S → Prop} (W : gw_ I [6, 29, 30, 38, 42, 43, 50]) {k196 : Int32 → Int32 → Int32 → km_S → Prop} (hk196 : ∀ y0 y1 y2 y3, I y3 → k196 y0 y1 y2 y3) {Q : km_S → Prop} (hQ : ∀ y0, I y0 → Q y0) : ∀ (n : Nat) (l1 : Int32) (l2 : Int32) (l3 : Int32) (l4 : Int32) (μ : km_S), I μ → vX12_mills_38 k196 Q n l1 l2 l3 l4 μ := by
  intro n
  induction n with
  | zero => intro l1 l2 l3 l4 μ i; exact trivial
  | succ n ih =>
    intro l1 l2 l3 l4 μ i
    unfold vX12_mills_38
    intro e1
    refine ⟨?_, ?_⟩
    · intro e2
      exact hk196 _ _ _ _ i
    · intro e3
      intro e4
      refine ⟨?_, ?_⟩
      · intro e5
        exact hk196 _ _ _ _ i
      · intro e6
        refine ⟨?_, ?_⟩
        · intro e7
          exact hk196 _ _ _ _ i
        · intro e8
          intro e9
          intro v24 e10
          intro e11
          intro e12
          refine ⟨?_, ?_⟩
          · intro e13
            exact jfX12_mills_109 (I := I) (gw_sub W (by decide)) (k38 := vX12_mills_38 k196 Q n) (fun _ _ _ _ _ i => ih _ _ _ _ _ i) hQ _ _ _ _ _ i
          · intro e14
            intro e15
            intro e16
            refine ⟨?_, ?_⟩
            · intro e17
              intro j
              exact jfX12_mills_119 (I := I) (gw_sub W (by decide)) (k164 := vX12_mills_164 (vX12_mills_38 k196 Q n) Q) (fun _ _ _ _ _ _ i => jfX12_mills_164 (I := I) (gw_sub W (by decide)) (k38 := vX12_mills_38 k196 Q n) (fun _ _ _ _ _ i => ih _ _ _ _ _ i) hQ _ _ _ _ _ _ i) hQ _ _ _ _ _ _ _ _ i
            · intro e18
              exact jfX12_mills_109 (I := I) (gw_sub W (by decide)) (k38 := vX12_mills_38 k196 Q n) (fun _ _ _ _ _ i => ih _ _ _ _ _ i) hQ _ _ _ _ _ i
def vX12_mills_14 (k202 : Int32 → km_S → Prop) (Q : km_S → Prop) : Nat → Int32 → Int32 → Int32 → km_S → Prop
  | 0, _, _, _, _ => True
  | n + 1, l1, l2, l3, μ => (((km_i μ 8) ≤ l3 → k202 l1 μ) ∧ (¬ ((km_i μ 8) ≤ l3) → vp_in l3 60 → (((km_a μ 47 l3.toNatClampNeg) = l1 → ∀ j, vX12_mills_38 (vX12_mills_196 (vX12_mills_14 k202 Q n) Q) Q j l1 l2 l3 0 μ) ∧ (¬ ((km_a μ 47 l3.toNatClampNeg) = l1) → vX12_mills_196 (vX12_mills_14 k202 Q n) Q l1 l2 l3 μ))))
set_option maxRecDepth 100000 in
set_option maxHeartbeats 4000000 in
theorem jcX12_mills_14 {k202 k202' k202'' : Int32 → km_S → Prop} (hk202 : ∀ y0 y1, k202 y0 y1 → k202' y0 y1 → k202'' y0 y1) {Q Q' Q'' : km_S → Prop} (hQ : ∀ y0, Q y0 → Q' y0 → Q'' y0) : ∀ (n : Nat) (l1 : Int32) (l2 : Int32) (l3 : Int32) (μ : km_S), wX12_mills_14 k202 Q n l1 l2 l3 μ → vX12_mills_14 k202' Q' n l1 l2 l3 μ → wX12_mills_14 k202'' Q'' n l1 l2 l3 μ := by
  intro n
  induction n with
  | zero => intro l1 l2 l3 μ h; exact h.elim
  | succ n ih =>
    intro l1 l2 l3 μ h v
    unfold wX12_mills_14 at h
    unfold vX12_mills_14 at v
    unfold wX12_mills_14
    refine ⟨?_, ?_⟩
    · have h := h.1
      have v := v.1
      intro e1
      have h := h e1
      have v := v e1
      exact hk202 _ _ h v
    · have h := h.2
      have v := v.2
      intro e2
      have h := h e2
      have v := v e2
      refine ⟨h.1, ?_⟩
      have v := v h.1
      have h := h.2
      refine ⟨?_, ?_⟩
      · have h := h.1
        have v := v.1
        intro e4
        have h := h e4
        have v := v e4
        obtain ⟨j, h⟩ := h
        refine ⟨j, ?_⟩
        have v := v j
        exact jcX12_mills_38 (k196 := wX12_mills_196 (wX12_mills_14 k202 Q n) Q) (k196' := vX12_mills_196 (vX12_mills_14 k202' Q' n) Q') (k196'' := wX12_mills_196 (wX12_mills_14 k202'' Q'' n) Q'') (fun _ _ _ _ h v => jcX12_mills_196 (k14 := wX12_mills_14 k202 Q n) (k14' := vX12_mills_14 k202' Q' n) (k14'' := wX12_mills_14 k202'' Q'' n) (fun _ _ _ _ h v => ih _ _ _ _ h v) hQ _ _ _ _ h v) hQ _ _ _ _ _ _ h v
      · have h := h.2
        have v := v.2
        intro e5
        have h := h e5
        have v := v e5
        exact jcX12_mills_196 (k14 := wX12_mills_14 k202 Q n) (k14' := vX12_mills_14 k202' Q' n) (k14'' := wX12_mills_14 k202'' Q'' n) (fun _ _ _ _ h v => ih _ _ _ _ h v) hQ _ _ _ _ h v
set_option maxRecDepth 100000 in
set_option maxHeartbeats 4000000 in
theorem jaX12_mills_14 {k202 k202' : Int32 → km_S → Prop} (hk202 : ∀ y0 y1, k202 y0 y1 → k202' y0 y1) {Q Q' : km_S → Prop} (hQ : ∀ y0, Q y0 → Q' y0) : ∀ (n m : Nat) (l1 : Int32) (l2 : Int32) (l3 : Int32) (μ : km_S), wX12_mills_14 k202 Q n l1 l2 l3 μ → vX12_mills_14 k202' Q' m l1 l2 l3 μ := by
  intro n
  induction n with
  | zero => intro m l1 l2 l3 μ h; exact h.elim
  | succ n ih =>
    intro m l1 l2 l3 μ h
    cases m with
    | zero => exact trivial
    | succ m =>
      unfold wX12_mills_14 at h
      unfold vX12_mills_14
      refine ⟨?_, ?_⟩
      · have h := h.1
        intro e1
        have h := h e1
        exact hk202 _ _ h
      · have h := h.2
        intro e2
        have h := h e2
        intro e3
        have h := h.2
        refine ⟨?_, ?_⟩
        · have h := h.1
          intro e4
          have h := h e4
          obtain ⟨j, h⟩ := h
          intro j9
          exact jaX12_mills_38 (k196 := wX12_mills_196 (wX12_mills_14 k202 Q n) Q) (k196' := vX12_mills_196 (vX12_mills_14 k202' Q' m) Q') (fun _ _ _ _ h => jaX12_mills_196 (k14 := wX12_mills_14 k202 Q n) (k14' := vX12_mills_14 k202' Q' m) (fun _ _ _ _ h => ih m _ _ _ _ h) hQ _ _ _ _ h) hQ _ j9 _ _ _ _ _ h
        · have h := h.2
          intro e5
          have h := h e5
          exact jaX12_mills_196 (k14 := wX12_mills_14 k202 Q n) (k14' := vX12_mills_14 k202' Q' m) (fun _ _ _ _ h => ih m _ _ _ _ h) hQ _ _ _ _ h
set_option maxRecDepth 100000 in
set_option maxHeartbeats 4000000 in
theorem jfX12_mills_14 {I : km_S → Prop} (W : gw_ I [6, 29, 30, 38, 42, 43, 50]) {k202 : Int32 → km_S → Prop} (hk202 : ∀ y0 y1, I y1 → k202 y0 y1) {Q : km_S → Prop} (hQ : ∀ y0, I y0 → Q y0) : ∀ (n : Nat) (l1 : Int32) (l2 : Int32) (l3 : Int32) (μ : km_S), I μ → vX12_mills_14 k202 Q n l1 l2 l3 μ := by
  intro n
  induction n with
  | zero => intro l1 l2 l3 μ i; exact trivial
  | succ n ih =>
    intro l1 l2 l3 μ i
    unfold vX12_mills_14
    refine ⟨?_, ?_⟩
    · intro e1
      exact hk202 _ _ i
    · intro e2
      intro e3
      refine ⟨?_, ?_⟩
      · intro e4
        intro j
        exact jfX12_mills_38 (I := I) (gw_sub W (by decide)) (k196 := vX12_mills_196 (vX12_mills_14 k202 Q n) Q) (fun _ _ _ _ i => jfX12_mills_196 (I := I) (gw_sub W (by decide)) (k14 := vX12_mills_14 k202 Q n) (fun _ _ _ _ i => ih _ _ _ _ i) hQ _ _ _ _ i) hQ _ _ _ _ _ _ i
      · intro e5
        exact jfX12_mills_196 (I := I) (gw_sub W (by decide)) (k14 := vX12_mills_14 k202 Q n) (fun _ _ _ _ i => ih _ _ _ _ i) hQ _ _ _ _ i
def vX12_mills_2 (Q : km_S → Prop) : Nat → Int32 → km_S → Prop
  | 0, _, _ => True
  | n + 1, l1, μ => (((km_i μ 3) ≤ l1 → Q μ) ∧ (¬ ((km_i μ 3) ≤ l1) → ∀ j, vX12_mills_14 (vX12_mills_202 (vX12_mills_2 Q n) Q) Q j l1 0 0 μ))
set_option maxRecDepth 100000 in
set_option maxHeartbeats 4000000 in
theorem jcX12_mills_2 {Q Q' Q'' : km_S → Prop} (hQ : ∀ y0, Q y0 → Q' y0 → Q'' y0) : ∀ (n : Nat) (l1 : Int32) (μ : km_S), wX12_mills_2 Q n l1 μ → vX12_mills_2 Q' n l1 μ → wX12_mills_2 Q'' n l1 μ := by
  intro n
  induction n with
  | zero => intro l1 μ h; exact h.elim
  | succ n ih =>
    intro l1 μ h v
    unfold wX12_mills_2 at h
    unfold vX12_mills_2 at v
    unfold wX12_mills_2
    refine ⟨?_, ?_⟩
    · have h := h.1
      have v := v.1
      intro e1
      have h := h e1
      have v := v e1
      exact hQ _ h v
    · have h := h.2
      have v := v.2
      intro e2
      have h := h e2
      have v := v e2
      obtain ⟨j, h⟩ := h
      refine ⟨j, ?_⟩
      have v := v j
      exact jcX12_mills_14 (k202 := wX12_mills_202 (wX12_mills_2 Q n) Q) (k202' := vX12_mills_202 (vX12_mills_2 Q' n) Q') (k202'' := wX12_mills_202 (wX12_mills_2 Q'' n) Q'') (fun _ _ h v => jcX12_mills_202 (k2 := wX12_mills_2 Q n) (k2' := vX12_mills_2 Q' n) (k2'' := wX12_mills_2 Q'' n) (fun _ _ h v => ih _ _ h v) hQ _ _ h v) hQ _ _ _ _ _ h v
set_option maxRecDepth 100000 in
set_option maxHeartbeats 4000000 in
theorem jaX12_mills_2 {Q Q' : km_S → Prop} (hQ : ∀ y0, Q y0 → Q' y0) : ∀ (n m : Nat) (l1 : Int32) (μ : km_S), wX12_mills_2 Q n l1 μ → vX12_mills_2 Q' m l1 μ := by
  intro n
  induction n with
  | zero => intro m l1 μ h; exact h.elim
  | succ n ih =>
    intro m l1 μ h
    cases m with
    | zero => exact trivial
    | succ m =>
      unfold wX12_mills_2 at h
      unfold vX12_mills_2
      refine ⟨?_, ?_⟩
      · have h := h.1
        intro e1
        have h := h e1
        exact hQ _ h
      · have h := h.2
        intro e2
        have h := h e2
        obtain ⟨j, h⟩ := h
        intro j9
        exact jaX12_mills_14 (k202 := wX12_mills_202 (wX12_mills_2 Q n) Q) (k202' := vX12_mills_202 (vX12_mills_2 Q' m) Q') (fun _ _ h => jaX12_mills_202 (k2 := wX12_mills_2 Q n) (k2' := vX12_mills_2 Q' m) (fun _ _ h => ih m _ _ h) hQ _ _ h) hQ _ j9 _ _ _ _ h
set_option maxRecDepth 100000 in
set_option maxHeartbeats 4000000 in
theorem jfX12_mills_2 {I : km_S → Prop} (W : gw_ I [6, 29, 30, 38, 42, 43, 50]) {Q : km_S → Prop} (hQ : ∀ y0, I y0 → Q y0) : ∀ (n : Nat) (l1 : Int32) (μ : km_S), I μ → vX12_mills_2 Q n l1 μ := by
  intro n
  induction n with
  | zero => intro l1 μ i; exact trivial
  | succ n ih =>
    intro l1 μ i
    unfold vX12_mills_2
    refine ⟨?_, ?_⟩
    · intro e1
      exact hQ _ i
    · intro e2
      intro j
      exact jfX12_mills_14 (I := I) (gw_sub W (by decide)) (k202 := vX12_mills_202 (vX12_mills_2 Q n) Q) (fun _ _ i => jfX12_mills_202 (I := I) (gw_sub W (by decide)) (k2 := vX12_mills_2 Q n) (fun _ _ i => ih _ _ i) hQ _ _ i) hQ _ _ _ _ _ i
def vX12_mills (μ : km_S) (Q : km_S → Prop) : Prop := ∀ j, vX12_mills_2 Q j 0 μ
set_option maxRecDepth 100000 in
set_option maxHeartbeats 4000000 in
theorem jcX12_mills {Q Q' Q'' : km_S → Prop} (hQ : ∀ y0, Q y0 → Q' y0 → Q'' y0) : ∀ (μ : km_S), wX12_mills μ Q → vX12_mills μ Q' → wX12_mills μ Q'' := by
  intro μ h v
  unfold wX12_mills at h
  unfold vX12_mills at v
  unfold wX12_mills
  obtain ⟨j, h⟩ := h
  refine ⟨j, ?_⟩
  have v := v j
  exact jcX12_mills_2 hQ _ _ _ h v
set_option maxRecDepth 100000 in
set_option maxHeartbeats 4000000 in
theorem jaX12_mills {Q Q' : km_S → Prop} (hQ : ∀ y0, Q y0 → Q' y0) : ∀ (μ : km_S), wX12_mills μ Q → vX12_mills μ Q' := by
  intro μ h
  unfold wX12_mills at h
  unfold vX12_mills
  obtain ⟨j, h⟩ := h
  intro j9
  exact jaX12_mills_2 hQ _ j9 _ _ h
set_option maxRecDepth 100000 in
set_option maxHeartbeats 4000000 in
theorem jfX12_mills {I : km_S → Prop} (W : gw_ I [6, 29, 30, 38, 42, 43, 50]) {Q : km_S → Prop} (hQ : ∀ y0, I y0 → Q y0) : ∀ (μ : km_S), I μ → vX12_mills μ Q := by
  intro μ i
  unfold vX12_mills
  intro j
  exact jfX12_mills_2 (I := I) (gw_sub W (by decide)) hQ _ _ _ i
def vX12_hours_76 (Q : Int32 → km_S → Prop) (μ : km_S) : Prop := Q (km_i μ 2) μ
set_option maxRecDepth 100000 in
set_option maxHeartbeats 4000000 in
theorem jcX12_hours_76 {Q Q' Q'' : Int32 → km_S → Prop} (hQ : ∀ y0 y1, Q y0 y1 → Q' y0 y1 → Q'' y0 y1) : ∀ (μ : km_S), wX12_hours_76 Q μ → vX12_hours_76 Q' μ → wX12_hours_76 Q'' μ := by
  intro μ h v
  unfold wX12_hours_76 at h
  unfold vX12_hours_76 at v
  unfold wX12_hours_76
  exact hQ _ _ h v
set_option maxRecDepth 100000 in
set_option maxHeartbeats 4000000 in
theorem jaX12_hours_76 {Q Q' : Int32 → km_S → Prop} (hQ : ∀ y0 y1, Q y0 y1 → Q' y0 y1) : ∀ (μ : km_S), wX12_hours_76 Q μ → vX12_hours_76 Q' μ := by
  intro μ h
  unfold wX12_hours_76 at h
  unfold vX12_hours_76
  exact hQ _ _ h
set_option maxRecDepth 100000 in
set_option maxHeartbeats 4000000 in
theorem jfX12_hours_76 {I : km_S → Prop} (W : gw_ I []) {Q : Int32 → km_S → Prop} (hQ : ∀ y0 y1, I y1 → Q y0 y1) : ∀ (μ : km_S), I μ → vX12_hours_76 Q μ := by
  intro μ i
  unfold vX12_hours_76
  exact hQ _ _ i
def vX12_hours_28 (Q : Int32 → km_S → Prop) (μ : km_S) : Prop := vX12_fail μ (fun r2 μ1 => Q r2 μ1)
set_option maxRecDepth 100000 in
set_option maxHeartbeats 4000000 in
theorem jcX12_hours_28 {Q Q' Q'' : Int32 → km_S → Prop} (hQ : ∀ y0 y1, Q y0 y1 → Q' y0 y1 → Q'' y0 y1) : ∀ (μ : km_S), wX12_hours_28 Q μ → vX12_hours_28 Q' μ → wX12_hours_28 Q'' μ := by
  intro μ h v
  unfold wX12_hours_28 at h
  unfold vX12_hours_28 at v
  unfold wX12_hours_28
  refine jcX12_fail ?_ _ h v
  intro r2 μ1 h v
  exact hQ _ _ h v
set_option maxRecDepth 100000 in
set_option maxHeartbeats 4000000 in
theorem jaX12_hours_28 {Q Q' : Int32 → km_S → Prop} (hQ : ∀ y0 y1, Q y0 y1 → Q' y0 y1) : ∀ (μ : km_S), wX12_hours_28 Q μ → vX12_hours_28 Q' μ := by
  intro μ h
  unfold wX12_hours_28 at h
  unfold vX12_hours_28
  refine jaX12_fail ?_ _ h
  intro r2 μ1 h
  exact hQ _ _ h
set_option maxRecDepth 100000 in
set_option maxHeartbeats 4000000 in
theorem jfX12_hours_28 {I : km_S → Prop} (W : gw_ I [1]) {Q : Int32 → km_S → Prop} (hQ : ∀ y0 y1, I y1 → Q y0 y1) : ∀ (μ : km_S), I μ → vX12_hours_28 Q μ := by
  intro μ i
  unfold vX12_hours_28
  refine jfX12_fail (I := I) (gw_sub W (by decide)) ?_ _ i
  intro r2 μ1 iμ1
  exact hQ _ _ iμ1
def vX12_hours_35 (k76 : km_S → Prop) (Q : Int32 → km_S → Prop) : Nat → Int32 → Int32 → km_S → Prop
  | 0, _, _, _ => True
  | n + 1, l1, l2, μ => ((l1 ≤ l2 → k76 μ) ∧ (¬ (l1 ≤ l2) → vX12_waterGoes μ (fun μ4 => vX12_move μ4 (fun μ5 => vX12_jams μ5 (fun μ6 => vX12_older μ6 (fun μ7 => vX12_mills μ7 (fun μ8 => ∀ μ9, μ9 = km_si μ8 2 ((km_i μ8 2) + 1) → ∀ v10 : Int32, v10 = l2 + 1 → vX12_hours_35 k76 Q n l1 v10 μ9)))))))
set_option maxRecDepth 100000 in
set_option maxHeartbeats 4000000 in
theorem jcX12_hours_35 {k76 k76' k76'' : km_S → Prop} (hk76 : ∀ y0, k76 y0 → k76' y0 → k76'' y0) {Q Q' Q'' : Int32 → km_S → Prop} (hQ : ∀ y0 y1, Q y0 y1 → Q' y0 y1 → Q'' y0 y1) : ∀ (n : Nat) (l1 : Int32) (l2 : Int32) (μ : km_S), wX12_hours_35 k76 Q n l1 l2 μ → vX12_hours_35 k76' Q' n l1 l2 μ → wX12_hours_35 k76'' Q'' n l1 l2 μ := by
  intro n
  induction n with
  | zero => intro l1 l2 μ h; exact h.elim
  | succ n ih =>
    intro l1 l2 μ h v
    unfold wX12_hours_35 at h
    unfold vX12_hours_35 at v
    unfold wX12_hours_35
    refine ⟨?_, ?_⟩
    · have h := h.1
      have v := v.1
      intro e1
      have h := h e1
      have v := v e1
      exact hk76 _ h v
    · have h := h.2
      have v := v.2
      intro e2
      have h := h e2
      have v := v e2
      refine jcX12_waterGoes ?_ _ h v
      intro μ4 h v
      refine jcX12_move ?_ _ h v
      intro μ5 h v
      refine jcX12_jams ?_ _ h v
      intro μ6 h v
      refine jcX12_older ?_ _ h v
      intro μ7 h v
      refine jcX12_mills ?_ _ h v
      intro μ8 h v
      intro μ9 e3
      have h := h μ9 e3
      have v := v μ9 e3
      intro v10 e4
      have h := h v10 e4
      have v := v v10 e4
      exact ih _ _ _ h v
set_option maxRecDepth 100000 in
set_option maxHeartbeats 4000000 in
theorem jaX12_hours_35 {k76 k76' : km_S → Prop} (hk76 : ∀ y0, k76 y0 → k76' y0) {Q Q' : Int32 → km_S → Prop} (hQ : ∀ y0 y1, Q y0 y1 → Q' y0 y1) : ∀ (n m : Nat) (l1 : Int32) (l2 : Int32) (μ : km_S), wX12_hours_35 k76 Q n l1 l2 μ → vX12_hours_35 k76' Q' m l1 l2 μ := by
  intro n
  induction n with
  | zero => intro m l1 l2 μ h; exact h.elim
  | succ n ih =>
    intro m l1 l2 μ h
    cases m with
    | zero => exact trivial
    | succ m =>
      unfold wX12_hours_35 at h
      unfold vX12_hours_35
      refine ⟨?_, ?_⟩
      · have h := h.1
        intro e1
        have h := h e1
        exact hk76 _ h
      · have h := h.2
        intro e2
        have h := h e2
        refine jaX12_waterGoes ?_ _ h
        intro μ4 h
        refine jaX12_move ?_ _ h
        intro μ5 h
        refine jaX12_jams ?_ _ h
        intro μ6 h
        refine jaX12_older ?_ _ h
        intro μ7 h
        refine jaX12_mills ?_ _ h
        intro μ8 h
        intro μ9 e3
        have h := h μ9 e3
        intro v10 e4
        have h := h v10 e4
        exact ih m _ _ _ h
set_option maxRecDepth 100000 in
set_option maxHeartbeats 4000000 in
theorem jfX12_hours_35 {I : km_S → Prop} (W : gw_ I [2, 6, 11, 12, 18, 19, 20, 25, 29, 30, 31, 32, 33, 34, 38, 39, 40, 41, 42, 43, 46, 50, 57, 68, 69, 1000]) {k76 : km_S → Prop} (hk76 : ∀ y0, I y0 → k76 y0) {Q : Int32 → km_S → Prop} (hQ : ∀ y0 y1, I y1 → Q y0 y1) : ∀ (n : Nat) (l1 : Int32) (l2 : Int32) (μ : km_S), I μ → vX12_hours_35 k76 Q n l1 l2 μ := by
  intro n
  induction n with
  | zero => intro l1 l2 μ i; exact trivial
  | succ n ih =>
    intro l1 l2 μ i
    unfold vX12_hours_35
    refine ⟨?_, ?_⟩
    · intro e1
      exact hk76 _ i
    · intro e2
      refine jfX12_waterGoes (I := I) (gw_sub W (by decide)) ?_ _ i
      intro μ4 iμ4
      refine jfX12_move (I := I) (gw_sub W (by decide)) ?_ _ iμ4
      intro μ5 iμ5
      refine jfX12_jams (I := I) (gw_sub W (by decide)) ?_ _ iμ5
      intro μ6 iμ6
      refine jfX12_older (I := I) (gw_sub W (by decide)) ?_ _ iμ6
      intro μ7 iμ7
      refine jfX12_mills (I := I) (gw_sub W (by decide)) ?_ _ iμ7
      intro μ8 iμ8
      intro μ9 e3
      have iμ9 : I μ9 := by rw [e3]; exact ((W _ iμ8) 2 (by decide)).1 _
      intro v10 e4
      exact ih _ _ _ iμ9
def vX12_hours (l1 : Int32) (μ : km_S) (Q : Int32 → km_S → Prop) : Prop := ∀ μ11, μ11 = km_si μ 1 0 → ((l1 < 0 → vX12_hours_28 Q μ11) ∧ (¬ (l1 < 0) → ((200 < l1 → vX12_hours_28 Q μ11) ∧ (¬ (200 < l1) → ((((km_i μ11 2) + l1) ≤ 20000 → ∀ j, vX12_hours_35 (vX12_hours_76 Q) Q j l1 0 μ11) ∧ (¬ (((km_i μ11 2) + l1) ≤ 20000) → vX12_hours_28 Q μ11))))))
set_option maxRecDepth 100000 in
set_option maxHeartbeats 4000000 in
theorem jcX12_hours {Q Q' Q'' : Int32 → km_S → Prop} (hQ : ∀ y0 y1, Q y0 y1 → Q' y0 y1 → Q'' y0 y1) : ∀ (l1 : Int32) (μ : km_S), wX12_hours l1 μ Q → vX12_hours l1 μ Q' → wX12_hours l1 μ Q'' := by
  intro l1 μ h v
  unfold wX12_hours at h
  unfold vX12_hours at v
  unfold wX12_hours
  intro μ11 e1
  have h := h μ11 e1
  have v := v μ11 e1
  refine ⟨?_, ?_⟩
  · have h := h.1
    have v := v.1
    intro e2
    have h := h e2
    have v := v e2
    exact jcX12_hours_28 hQ _ h v
  · have h := h.2
    have v := v.2
    intro e3
    have h := h e3
    have v := v e3
    refine ⟨?_, ?_⟩
    · have h := h.1
      have v := v.1
      intro e4
      have h := h e4
      have v := v e4
      exact jcX12_hours_28 hQ _ h v
    · have h := h.2
      have v := v.2
      intro e5
      have h := h e5
      have v := v e5
      refine ⟨?_, ?_⟩
      · have h := h.1
        have v := v.1
        intro e6
        have h := h e6
        have v := v e6
        obtain ⟨j, h⟩ := h
        refine ⟨j, ?_⟩
        have v := v j
        exact jcX12_hours_35 (k76 := wX12_hours_76 Q) (k76' := vX12_hours_76 Q') (k76'' := wX12_hours_76 Q'') (fun _ h v => jcX12_hours_76 hQ _ h v) hQ _ _ _ _ h v
      · have h := h.2
        have v := v.2
        intro e7
        have h := h e7
        have v := v e7
        exact jcX12_hours_28 hQ _ h v
set_option maxRecDepth 100000 in
set_option maxHeartbeats 4000000 in
theorem jaX12_hours {Q Q' : Int32 → km_S → Prop} (hQ : ∀ y0 y1, Q y0 y1 → Q' y0 y1) : ∀ (l1 : Int32) (μ : km_S), wX12_hours l1 μ Q → vX12_hours l1 μ Q' := by
  intro l1 μ h
  unfold wX12_hours at h
  unfold vX12_hours
  intro μ11 e1
  have h := h μ11 e1
  refine ⟨?_, ?_⟩
  · have h := h.1
    intro e2
    have h := h e2
    exact jaX12_hours_28 hQ _ h
  · have h := h.2
    intro e3
    have h := h e3
    refine ⟨?_, ?_⟩
    · have h := h.1
      intro e4
      have h := h e4
      exact jaX12_hours_28 hQ _ h
    · have h := h.2
      intro e5
      have h := h e5
      refine ⟨?_, ?_⟩
      · have h := h.1
        intro e6
        have h := h e6
        obtain ⟨j, h⟩ := h
        intro j9
        exact jaX12_hours_35 (k76 := wX12_hours_76 Q) (k76' := vX12_hours_76 Q') (fun _ h => jaX12_hours_76 hQ _ h) hQ _ j9 _ _ _ h
      · have h := h.2
        intro e7
        have h := h e7
        exact jaX12_hours_28 hQ _ h
set_option maxRecDepth 100000 in
set_option maxHeartbeats 4000000 in
theorem jfX12_hours {I : km_S → Prop} (W : gw_ I [1, 2, 6, 11, 12, 18, 19, 20, 25, 29, 30, 31, 32, 33, 34, 38, 39, 40, 41, 42, 43, 46, 50, 57, 68, 69, 1000]) {Q : Int32 → km_S → Prop} (hQ : ∀ y0 y1, I y1 → Q y0 y1) : ∀ (l1 : Int32) (μ : km_S), I μ → vX12_hours l1 μ Q := by
  intro l1 μ i
  unfold vX12_hours
  intro μ11 e1
  have iμ11 : I μ11 := by rw [e1]; exact ((W _ i) 1 (by decide)).1 _
  refine ⟨?_, ?_⟩
  · intro e2
    exact jfX12_hours_28 (I := I) (gw_sub W (by decide)) hQ _ iμ11
  · intro e3
    refine ⟨?_, ?_⟩
    · intro e4
      exact jfX12_hours_28 (I := I) (gw_sub W (by decide)) hQ _ iμ11
    · intro e5
      refine ⟨?_, ?_⟩
      · intro e6
        intro j
        exact jfX12_hours_35 (I := I) (gw_sub W (by decide)) (k76 := vX12_hours_76 Q) (fun _ i => jfX12_hours_76 (I := I) (gw_sub W (by decide)) hQ _ i) hQ _ _ _ _ iμ11
      · intro e7
        exact jfX12_hours_28 (I := I) (gw_sub W (by decide)) hQ _ iμ11

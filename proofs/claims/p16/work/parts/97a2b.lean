def vX12_feed_23 (k120 : km_S → Prop) (Q : Int32 → km_S → Prop) : Nat → Int32 → Int32 → Int32 → Int32 → Int32 → Int32 → km_S → Prop
  | 0, _, _, _, _, _, _, _ => True
  | n + 1, l1, l2, l3, l4, l5, l6, μ => ((20 ≤ l6 → k120 μ) ∧ (¬ (20 ≤ l6) → ((4 ≤ l6 → ((8 ≤ l6 → ((12 ≤ l6 → ((16 ≤ l6 → vX12_feed_76 (vX12_feed_23 k120 Q n) Q l1 l2 l3 l4 l5 l6 l5 μ) ∧ (¬ (16 ≤ l6) → vX12_feed_76 (vX12_feed_23 k120 Q n) Q l1 l2 l3 l4 l5 l6 l4 μ))) ∧ (¬ (12 ≤ l6) → vX12_feed_76 (vX12_feed_23 k120 Q n) Q l1 l2 l3 l4 l5 l6 l3 μ))) ∧ (¬ (8 ≤ l6) → vX12_feed_76 (vX12_feed_23 k120 Q n) Q l1 l2 l3 l4 l5 l6 l2 μ))) ∧ (¬ (4 ≤ l6) → vX12_feed_76 (vX12_feed_23 k120 Q n) Q l1 l2 l3 l4 l5 l6 l1 μ))))
set_option maxRecDepth 100000 in
set_option maxHeartbeats 4000000 in
theorem jcX12_feed_23 {k120 k120' k120'' : km_S → Prop} (hk120 : ∀ y0, k120 y0 → k120' y0 → k120'' y0) {Q Q' Q'' : Int32 → km_S → Prop} (hQ : ∀ y0 y1, Q y0 y1 → Q' y0 y1 → Q'' y0 y1) : ∀ (n : Nat) (l1 : Int32) (l2 : Int32) (l3 : Int32) (l4 : Int32) (l5 : Int32) (l6 : Int32) (μ : km_S), wX12_feed_23 k120 Q n l1 l2 l3 l4 l5 l6 μ → vX12_feed_23 k120' Q' n l1 l2 l3 l4 l5 l6 μ → wX12_feed_23 k120'' Q'' n l1 l2 l3 l4 l5 l6 μ := by
  intro n
  induction n with
  | zero => intro l1 l2 l3 l4 l5 l6 μ h; exact h.elim
  | succ n ih =>
    intro l1 l2 l3 l4 l5 l6 μ h v
    unfold wX12_feed_23 at h
    unfold vX12_feed_23 at v
    unfold wX12_feed_23
    refine ⟨?_, ?_⟩
    · have h := h.1
      have v := v.1
      intro e1
      have h := h e1
      have v := v e1
      exact hk120 _ h v
    · have h := h.2
      have v := v.2
      intro e2
      have h := h e2
      have v := v e2
      refine ⟨?_, ?_⟩
      · have h := h.1
        have v := v.1
        intro e3
        have h := h e3
        have v := v e3
        refine ⟨?_, ?_⟩
        · have h := h.1
          have v := v.1
          intro e4
          have h := h e4
          have v := v e4
          refine ⟨?_, ?_⟩
          · have h := h.1
            have v := v.1
            intro e5
            have h := h e5
            have v := v e5
            refine ⟨?_, ?_⟩
            · have h := h.1
              have v := v.1
              intro e6
              have h := h e6
              have v := v e6
              exact jcX12_feed_76 (k23 := wX12_feed_23 k120 Q n) (k23' := vX12_feed_23 k120' Q' n) (k23'' := wX12_feed_23 k120'' Q'' n) (fun _ _ _ _ _ _ _ h v => ih _ _ _ _ _ _ _ h v) hQ _ _ _ _ _ _ _ _ h v
            · have h := h.2
              have v := v.2
              intro e7
              have h := h e7
              have v := v e7
              exact jcX12_feed_76 (k23 := wX12_feed_23 k120 Q n) (k23' := vX12_feed_23 k120' Q' n) (k23'' := wX12_feed_23 k120'' Q'' n) (fun _ _ _ _ _ _ _ h v => ih _ _ _ _ _ _ _ h v) hQ _ _ _ _ _ _ _ _ h v
          · have h := h.2
            have v := v.2
            intro e8
            have h := h e8
            have v := v e8
            exact jcX12_feed_76 (k23 := wX12_feed_23 k120 Q n) (k23' := vX12_feed_23 k120' Q' n) (k23'' := wX12_feed_23 k120'' Q'' n) (fun _ _ _ _ _ _ _ h v => ih _ _ _ _ _ _ _ h v) hQ _ _ _ _ _ _ _ _ h v
        · have h := h.2
          have v := v.2
          intro e9
          have h := h e9
          have v := v e9
          exact jcX12_feed_76 (k23 := wX12_feed_23 k120 Q n) (k23' := vX12_feed_23 k120' Q' n) (k23'' := wX12_feed_23 k120'' Q'' n) (fun _ _ _ _ _ _ _ h v => ih _ _ _ _ _ _ _ h v) hQ _ _ _ _ _ _ _ _ h v
      · have h := h.2
        have v := v.2
        intro e10
        have h := h e10
        have v := v e10
        exact jcX12_feed_76 (k23 := wX12_feed_23 k120 Q n) (k23' := vX12_feed_23 k120' Q' n) (k23'' := wX12_feed_23 k120'' Q'' n) (fun _ _ _ _ _ _ _ h v => ih _ _ _ _ _ _ _ h v) hQ _ _ _ _ _ _ _ _ h v
set_option maxRecDepth 100000 in
set_option maxHeartbeats 4000000 in
theorem jaX12_feed_23 {k120 k120' : km_S → Prop} (hk120 : ∀ y0, k120 y0 → k120' y0) {Q Q' : Int32 → km_S → Prop} (hQ : ∀ y0 y1, Q y0 y1 → Q' y0 y1) : ∀ (n m : Nat) (l1 : Int32) (l2 : Int32) (l3 : Int32) (l4 : Int32) (l5 : Int32) (l6 : Int32) (μ : km_S), wX12_feed_23 k120 Q n l1 l2 l3 l4 l5 l6 μ → vX12_feed_23 k120' Q' m l1 l2 l3 l4 l5 l6 μ := by
  intro n
  induction n with
  | zero => intro m l1 l2 l3 l4 l5 l6 μ h; exact h.elim
  | succ n ih =>
    intro m l1 l2 l3 l4 l5 l6 μ h
    cases m with
    | zero => exact trivial
    | succ m =>
      unfold wX12_feed_23 at h
      unfold vX12_feed_23
      refine ⟨?_, ?_⟩
      · have h := h.1
        intro e1
        have h := h e1
        exact hk120 _ h
      · have h := h.2
        intro e2
        have h := h e2
        refine ⟨?_, ?_⟩
        · have h := h.1
          intro e3
          have h := h e3
          refine ⟨?_, ?_⟩
          · have h := h.1
            intro e4
            have h := h e4
            refine ⟨?_, ?_⟩
            · have h := h.1
              intro e5
              have h := h e5
              refine ⟨?_, ?_⟩
              · have h := h.1
                intro e6
                have h := h e6
                exact jaX12_feed_76 (k23 := wX12_feed_23 k120 Q n) (k23' := vX12_feed_23 k120' Q' m) (fun _ _ _ _ _ _ _ h => ih m _ _ _ _ _ _ _ h) hQ _ _ _ _ _ _ _ _ h
              · have h := h.2
                intro e7
                have h := h e7
                exact jaX12_feed_76 (k23 := wX12_feed_23 k120 Q n) (k23' := vX12_feed_23 k120' Q' m) (fun _ _ _ _ _ _ _ h => ih m _ _ _ _ _ _ _ h) hQ _ _ _ _ _ _ _ _ h
            · have h := h.2
              intro e8
              have h := h e8
              exact jaX12_feed_76 (k23 := wX12_feed_23 k120 Q n) (k23' := vX12_feed_23 k120' Q' m) (fun _ _ _ _ _ _ _ h => ih m _ _ _ _ _ _ _ h) hQ _ _ _ _ _ _ _ _ h
          · have h := h.2
            intro e9
            have h := h e9
            exact jaX12_feed_76 (k23 := wX12_feed_23 k120 Q n) (k23' := vX12_feed_23 k120' Q' m) (fun _ _ _ _ _ _ _ h => ih m _ _ _ _ _ _ _ h) hQ _ _ _ _ _ _ _ _ h
        · have h := h.2
          intro e10
          have h := h e10
          exact jaX12_feed_76 (k23 := wX12_feed_23 k120 Q n) (k23' := vX12_feed_23 k120' Q' m) (fun _ _ _ _ _ _ _ h => ih m _ _ _ _ _ _ _ h) hQ _ _ _ _ _ _ _ _ h
set_option maxRecDepth 100000 in
set_option maxHeartbeats 4000000 in
theorem jfX12_feed_23 {I : km_S → Prop} (W : gw_ I [9, 52]) {k120 : km_S → Prop} (hk120 : ∀ y0, I y0 → k120 y0) {Q : Int32 → km_S → Prop} (hQ : ∀ y0 y1, I y1 → Q y0 y1) : ∀ (n : Nat) (l1 : Int32) (l2 : Int32) (l3 : Int32) (l4 : Int32) (l5 : Int32) (l6 : Int32) (μ : km_S), I μ → vX12_feed_23 k120 Q n l1 l2 l3 l4 l5 l6 μ := by
  intro n
  induction n with
  | zero => intro l1 l2 l3 l4 l5 l6 μ i; exact trivial
  | succ n ih =>
    intro l1 l2 l3 l4 l5 l6 μ i
    unfold vX12_feed_23
    refine ⟨?_, ?_⟩
    · intro e1
      exact hk120 _ i
    · intro e2
      refine ⟨?_, ?_⟩
      · intro e3
        refine ⟨?_, ?_⟩
        · intro e4
          refine ⟨?_, ?_⟩
          · intro e5
            refine ⟨?_, ?_⟩
            · intro e6
              exact jfX12_feed_76 (I := I) (gw_sub W (by decide)) (k23 := vX12_feed_23 k120 Q n) (fun _ _ _ _ _ _ _ i => ih _ _ _ _ _ _ _ i) hQ _ _ _ _ _ _ _ _ i
            · intro e7
              exact jfX12_feed_76 (I := I) (gw_sub W (by decide)) (k23 := vX12_feed_23 k120 Q n) (fun _ _ _ _ _ _ _ i => ih _ _ _ _ _ _ _ i) hQ _ _ _ _ _ _ _ _ i
          · intro e8
            exact jfX12_feed_76 (I := I) (gw_sub W (by decide)) (k23 := vX12_feed_23 k120 Q n) (fun _ _ _ _ _ _ _ i => ih _ _ _ _ _ _ _ i) hQ _ _ _ _ _ _ _ _ i
        · intro e9
          exact jfX12_feed_76 (I := I) (gw_sub W (by decide)) (k23 := vX12_feed_23 k120 Q n) (fun _ _ _ _ _ _ _ i => ih _ _ _ _ _ _ _ i) hQ _ _ _ _ _ _ _ _ i
      · intro e10
        exact jfX12_feed_76 (I := I) (gw_sub W (by decide)) (k23 := vX12_feed_23 k120 Q n) (fun _ _ _ _ _ _ _ i => ih _ _ _ _ _ _ _ i) hQ _ _ _ _ _ _ _ _ i
def vX12_feed (l1 : Int32) (l2 : Int32) (l3 : Int32) (l4 : Int32) (l5 : Int32) (μ : km_S) (Q : Int32 → km_S → Prop) : Prop := ∀ μ10, μ10 = km_si μ 1 0 → ((((km_i μ10 9) + 20) ≤ 500 → ∀ j, vX12_feed_23 (vX12_feed_120 Q) Q j l1 l2 l3 l4 l5 0 μ10) ∧ (¬ (((km_i μ10 9) + 20) ≤ 500) → Q (-1) μ10))
set_option maxRecDepth 100000 in
set_option maxHeartbeats 4000000 in
theorem jcX12_feed {Q Q' Q'' : Int32 → km_S → Prop} (hQ : ∀ y0 y1, Q y0 y1 → Q' y0 y1 → Q'' y0 y1) : ∀ (l1 : Int32) (l2 : Int32) (l3 : Int32) (l4 : Int32) (l5 : Int32) (μ : km_S), wX12_feed l1 l2 l3 l4 l5 μ Q → vX12_feed l1 l2 l3 l4 l5 μ Q' → wX12_feed l1 l2 l3 l4 l5 μ Q'' := by
  intro l1 l2 l3 l4 l5 μ h v
  unfold wX12_feed at h
  unfold vX12_feed at v
  unfold wX12_feed
  intro μ10 e1
  have h := h μ10 e1
  have v := v μ10 e1
  refine ⟨?_, ?_⟩
  · have h := h.1
    have v := v.1
    intro e2
    have h := h e2
    have v := v e2
    obtain ⟨j, h⟩ := h
    refine ⟨j, ?_⟩
    have v := v j
    exact jcX12_feed_23 (k120 := wX12_feed_120 Q) (k120' := vX12_feed_120 Q') (k120'' := wX12_feed_120 Q'') (fun _ h v => jcX12_feed_120 hQ _ h v) hQ _ _ _ _ _ _ _ _ h v
  · have h := h.2
    have v := v.2
    intro e3
    have h := h e3
    have v := v e3
    exact hQ _ _ h v
set_option maxRecDepth 100000 in
set_option maxHeartbeats 4000000 in
theorem jaX12_feed {Q Q' : Int32 → km_S → Prop} (hQ : ∀ y0 y1, Q y0 y1 → Q' y0 y1) : ∀ (l1 : Int32) (l2 : Int32) (l3 : Int32) (l4 : Int32) (l5 : Int32) (μ : km_S), wX12_feed l1 l2 l3 l4 l5 μ Q → vX12_feed l1 l2 l3 l4 l5 μ Q' := by
  intro l1 l2 l3 l4 l5 μ h
  unfold wX12_feed at h
  unfold vX12_feed
  intro μ10 e1
  have h := h μ10 e1
  refine ⟨?_, ?_⟩
  · have h := h.1
    intro e2
    have h := h e2
    obtain ⟨j, h⟩ := h
    intro j9
    exact jaX12_feed_23 (k120 := wX12_feed_120 Q) (k120' := vX12_feed_120 Q') (fun _ h => jaX12_feed_120 hQ _ h) hQ _ j9 _ _ _ _ _ _ _ h
  · have h := h.2
    intro e3
    have h := h e3
    exact hQ _ _ h
set_option maxRecDepth 100000 in
set_option maxHeartbeats 4000000 in
theorem jfX12_feed {I : km_S → Prop} (W : gw_ I [1, 9, 52]) {Q : Int32 → km_S → Prop} (hQ : ∀ y0 y1, I y1 → Q y0 y1) : ∀ (l1 : Int32) (l2 : Int32) (l3 : Int32) (l4 : Int32) (l5 : Int32) (μ : km_S), I μ → vX12_feed l1 l2 l3 l4 l5 μ Q := by
  intro l1 l2 l3 l4 l5 μ i
  unfold vX12_feed
  intro μ10 e1
  have iμ10 : I μ10 := by rw [e1]; exact ((W _ i) 1 (by decide)).1 _
  refine ⟨?_, ?_⟩
  · intro e2
    intro j
    exact jfX12_feed_23 (I := I) (gw_sub W (by decide)) (k120 := vX12_feed_120 Q) (fun _ i => jfX12_feed_120 (I := I) (gw_sub W (by decide)) hQ _ i) hQ _ _ _ _ _ _ _ _ iμ10
  · intro e3
    exact hQ _ _ iμ10
def vX12_cut (l1 : Int32) (l2 : Int32) (l3 : Int32) (μ : km_S) (Q : Int32 → km_S → Prop) : Prop := ∀ μ1, μ1 = km_si μ 1 0 → (((km_i μ1 4) = 400 → Q (-1) μ1) ∧ (¬ ((km_i μ1 4) = 400) → ((l1 < 0 → Q (-1) μ1) ∧ (¬ (l1 < 0) → ((15 < l1 → Q (-1) μ1) ∧ (¬ (15 < l1) → ((l2 < 1 → Q (-1) μ1) ∧ (¬ (l2 < 1) → ((9 < l2 → Q (-1) μ1) ∧ (¬ (9 < l2) → ((l3 < 0 → Q (-1) μ1) ∧ (¬ (l3 < 0) → ((l3 ≤ 1000000 → vp_in (km_i μ1 4) 400 → ∀ μ10, μ10 = km_sa μ1 35 (km_i μ1 4).toNatClampNeg l1 → vp_in (km_i μ10 4) 400 → ∀ μ12, μ12 = km_sa μ10 36 (km_i μ10 4).toNatClampNeg l2 → vp_in (km_i μ12 4) 400 → ∀ μ14, μ14 = km_sa μ12 37 (km_i μ12 4).toNatClampNeg l3 → vp_in (km_i μ14 4) 400 → ∀ μ16, μ16 = km_sa μ14 38 (km_i μ14 4).toNatClampNeg 0 → vp_in (km_i μ16 4) 400 → ∀ μ18, μ18 = km_sa μ16 39 (km_i μ16 4).toNatClampNeg (-1) → vp_in (km_i μ18 4) 400 → ∀ μ20, μ20 = km_sa μ18 40 (km_i μ18 4).toNatClampNeg (-1) → vp_in (km_i μ20 4) 400 → ∀ μ22, μ22 = km_sa μ20 42 (km_i μ20 4).toNatClampNeg (-1) → ∀ μ23, μ23 = km_si μ22 4 ((km_i μ22 4) + 1) → Q ((km_i μ23 4) - 1) μ23) ∧ (¬ (l3 ≤ 1000000) → Q (-1) μ1))))))))))))))
set_option maxRecDepth 100000 in
set_option maxHeartbeats 4000000 in
theorem jcX12_cut {Q Q' Q'' : Int32 → km_S → Prop} (hQ : ∀ y0 y1, Q y0 y1 → Q' y0 y1 → Q'' y0 y1) : ∀ (l1 : Int32) (l2 : Int32) (l3 : Int32) (μ : km_S), wX12_cut l1 l2 l3 μ Q → vX12_cut l1 l2 l3 μ Q' → wX12_cut l1 l2 l3 μ Q'' := by
  intro l1 l2 l3 μ h v
  unfold wX12_cut at h
  unfold vX12_cut at v
  unfold wX12_cut
  intro μ1 e1
  have h := h μ1 e1
  have v := v μ1 e1
  refine ⟨?_, ?_⟩
  · have h := h.1
    have v := v.1
    intro e2
    have h := h e2
    have v := v e2
    exact hQ _ _ h v
  · have h := h.2
    have v := v.2
    intro e3
    have h := h e3
    have v := v e3
    refine ⟨?_, ?_⟩
    · have h := h.1
      have v := v.1
      intro e4
      have h := h e4
      have v := v e4
      exact hQ _ _ h v
    · have h := h.2
      have v := v.2
      intro e5
      have h := h e5
      have v := v e5
      refine ⟨?_, ?_⟩
      · have h := h.1
        have v := v.1
        intro e6
        have h := h e6
        have v := v e6
        exact hQ _ _ h v
      · have h := h.2
        have v := v.2
        intro e7
        have h := h e7
        have v := v e7
        refine ⟨?_, ?_⟩
        · have h := h.1
          have v := v.1
          intro e8
          have h := h e8
          have v := v e8
          exact hQ _ _ h v
        · have h := h.2
          have v := v.2
          intro e9
          have h := h e9
          have v := v e9
          refine ⟨?_, ?_⟩
          · have h := h.1
            have v := v.1
            intro e10
            have h := h e10
            have v := v e10
            exact hQ _ _ h v
          · have h := h.2
            have v := v.2
            intro e11
            have h := h e11
            have v := v e11
            refine ⟨?_, ?_⟩
            · have h := h.1
              have v := v.1
              intro e12
              have h := h e12
              have v := v e12
              exact hQ _ _ h v
            · have h := h.2
              have v := v.2
              intro e13
              have h := h e13
              have v := v e13
              refine ⟨?_, ?_⟩
              · have h := h.1
                have v := v.1
                intro e14
                have h := h e14
                have v := v e14
                refine ⟨h.1, ?_⟩
                have v := v h.1
                have h := h.2
                intro μ10 e16
                have h := h μ10 e16
                have v := v μ10 e16
                refine ⟨h.1, ?_⟩
                have v := v h.1
                have h := h.2
                intro μ12 e18
                have h := h μ12 e18
                have v := v μ12 e18
                refine ⟨h.1, ?_⟩
                have v := v h.1
                have h := h.2
                intro μ14 e20
                have h := h μ14 e20
                have v := v μ14 e20
                refine ⟨h.1, ?_⟩
                have v := v h.1
                have h := h.2
                intro μ16 e22
                have h := h μ16 e22
                have v := v μ16 e22
                refine ⟨h.1, ?_⟩
                have v := v h.1
                have h := h.2
                intro μ18 e24
                have h := h μ18 e24
                have v := v μ18 e24
                refine ⟨h.1, ?_⟩
                have v := v h.1
                have h := h.2
                intro μ20 e26
                have h := h μ20 e26
                have v := v μ20 e26
                refine ⟨h.1, ?_⟩
                have v := v h.1
                have h := h.2
                intro μ22 e28
                have h := h μ22 e28
                have v := v μ22 e28
                intro μ23 e29
                have h := h μ23 e29
                have v := v μ23 e29
                exact hQ _ _ h v
              · have h := h.2
                have v := v.2
                intro e30
                have h := h e30
                have v := v e30
                exact hQ _ _ h v
set_option maxRecDepth 100000 in
set_option maxHeartbeats 4000000 in
theorem jaX12_cut {Q Q' : Int32 → km_S → Prop} (hQ : ∀ y0 y1, Q y0 y1 → Q' y0 y1) : ∀ (l1 : Int32) (l2 : Int32) (l3 : Int32) (μ : km_S), wX12_cut l1 l2 l3 μ Q → vX12_cut l1 l2 l3 μ Q' := by
  intro l1 l2 l3 μ h
  unfold wX12_cut at h
  unfold vX12_cut
  intro μ1 e1
  have h := h μ1 e1
  refine ⟨?_, ?_⟩
  · have h := h.1
    intro e2
    have h := h e2
    exact hQ _ _ h
  · have h := h.2
    intro e3
    have h := h e3
    refine ⟨?_, ?_⟩
    · have h := h.1
      intro e4
      have h := h e4
      exact hQ _ _ h
    · have h := h.2
      intro e5
      have h := h e5
      refine ⟨?_, ?_⟩
      · have h := h.1
        intro e6
        have h := h e6
        exact hQ _ _ h
      · have h := h.2
        intro e7
        have h := h e7
        refine ⟨?_, ?_⟩
        · have h := h.1
          intro e8
          have h := h e8
          exact hQ _ _ h
        · have h := h.2
          intro e9
          have h := h e9
          refine ⟨?_, ?_⟩
          · have h := h.1
            intro e10
            have h := h e10
            exact hQ _ _ h
          · have h := h.2
            intro e11
            have h := h e11
            refine ⟨?_, ?_⟩
            · have h := h.1
              intro e12
              have h := h e12
              exact hQ _ _ h
            · have h := h.2
              intro e13
              have h := h e13
              refine ⟨?_, ?_⟩
              · have h := h.1
                intro e14
                have h := h e14
                intro e15
                have h := h.2
                intro μ10 e16
                have h := h μ10 e16
                intro e17
                have h := h.2
                intro μ12 e18
                have h := h μ12 e18
                intro e19
                have h := h.2
                intro μ14 e20
                have h := h μ14 e20
                intro e21
                have h := h.2
                intro μ16 e22
                have h := h μ16 e22
                intro e23
                have h := h.2
                intro μ18 e24
                have h := h μ18 e24
                intro e25
                have h := h.2
                intro μ20 e26
                have h := h μ20 e26
                intro e27
                have h := h.2
                intro μ22 e28
                have h := h μ22 e28
                intro μ23 e29
                have h := h μ23 e29
                exact hQ _ _ h
              · have h := h.2
                intro e30
                have h := h e30
                exact hQ _ _ h
set_option maxRecDepth 100000 in
set_option maxHeartbeats 4000000 in
theorem jfX12_cut {I : km_S → Prop} (W : gw_ I [1, 4, 35, 36, 37, 38, 39, 40, 42]) {Q : Int32 → km_S → Prop} (hQ : ∀ y0 y1, I y1 → Q y0 y1) : ∀ (l1 : Int32) (l2 : Int32) (l3 : Int32) (μ : km_S), I μ → vX12_cut l1 l2 l3 μ Q := by
  intro l1 l2 l3 μ i
  unfold vX12_cut
  intro μ1 e1
  have iμ1 : I μ1 := by rw [e1]; exact ((W _ i) 1 (by decide)).1 _
  refine ⟨?_, ?_⟩
  · intro e2
    exact hQ _ _ iμ1
  · intro e3
    refine ⟨?_, ?_⟩
    · intro e4
      exact hQ _ _ iμ1
    · intro e5
      refine ⟨?_, ?_⟩
      · intro e6
        exact hQ _ _ iμ1
      · intro e7
        refine ⟨?_, ?_⟩
        · intro e8
          exact hQ _ _ iμ1
        · intro e9
          refine ⟨?_, ?_⟩
          · intro e10
            exact hQ _ _ iμ1
          · intro e11
            refine ⟨?_, ?_⟩
            · intro e12
              exact hQ _ _ iμ1
            · intro e13
              refine ⟨?_, ?_⟩
              · intro e14
                intro e15
                intro μ10 e16
                have iμ10 : I μ10 := by rw [e16]; exact ((W _ iμ1) 35 (by decide)).2.1 _ _
                intro e17
                intro μ12 e18
                have iμ12 : I μ12 := by rw [e18]; exact ((W _ iμ10) 36 (by decide)).2.1 _ _
                intro e19
                intro μ14 e20
                have iμ14 : I μ14 := by rw [e20]; exact ((W _ iμ12) 37 (by decide)).2.1 _ _
                intro e21
                intro μ16 e22
                have iμ16 : I μ16 := by rw [e22]; exact ((W _ iμ14) 38 (by decide)).2.1 _ _
                intro e23
                intro μ18 e24
                have iμ18 : I μ18 := by rw [e24]; exact ((W _ iμ16) 39 (by decide)).2.1 _ _
                intro e25
                intro μ20 e26
                have iμ20 : I μ20 := by rw [e26]; exact ((W _ iμ18) 40 (by decide)).2.1 _ _
                intro e27
                intro μ22 e28
                have iμ22 : I μ22 := by rw [e28]; exact ((W _ iμ20) 42 (by decide)).2.1 _ _
                intro μ23 e29
                have iμ23 : I μ23 := by rw [e29]; exact ((W _ iμ22) 4 (by decide)).1 _
                exact hQ _ _ iμ23
              · intro e30
                exact hQ _ _ iμ1
def vX12_lay (l1 : Int32) (l2 : Int32) (l3 : Int32) (μ : km_S) (Q : km_S → Prop) : Prop := vX12_at0 l2 l3 μ (fun r2 μ1 => vp_in r2 120 → vp_in ((20 * r2) + (km_a μ1 31 r2.toNatClampNeg)) 2400 → ∀ μ5, μ5 = km_sa μ1 32 ((20 * r2) + (km_a μ1 31 r2.toNatClampNeg)).toNatClampNeg l1 → vp_in r2 120 → vp_in r2 120 → ∀ μ8, μ8 = km_sa μ5 31 r2.toNatClampNeg ((km_a μ5 31 r2.toNatClampNeg) + 1) → vp_in l1 400 → ∀ μ10, μ10 = km_sa μ8 39 l1.toNatClampNeg l2 → vp_in l1 400 → ∀ μ12, μ12 = km_sa μ10 40 l1.toNatClampNeg l3 → Q μ12)
set_option maxRecDepth 100000 in
set_option maxHeartbeats 4000000 in
theorem jcX12_lay {Q Q' Q'' : km_S → Prop} (hQ : ∀ y0, Q y0 → Q' y0 → Q'' y0) : ∀ (l1 : Int32) (l2 : Int32) (l3 : Int32) (μ : km_S), wX12_lay l1 l2 l3 μ Q → vX12_lay l1 l2 l3 μ Q' → wX12_lay l1 l2 l3 μ Q'' := by
  intro l1 l2 l3 μ h v
  unfold wX12_lay at h
  unfold vX12_lay at v
  unfold wX12_lay
  refine jcX12_at0 ?_ _ _ _ h v
  intro r2 μ1 h v
  refine ⟨h.1, ?_⟩
  have v := v h.1
  have h := h.2
  refine ⟨h.1, ?_⟩
  have v := v h.1
  have h := h.2
  intro μ5 e3
  have h := h μ5 e3
  have v := v μ5 e3
  refine ⟨h.1, ?_⟩
  have v := v h.1
  have h := h.2
  refine ⟨h.1, ?_⟩
  have v := v h.1
  have h := h.2
  intro μ8 e6
  have h := h μ8 e6
  have v := v μ8 e6
  refine ⟨h.1, ?_⟩
  have v := v h.1
  have h := h.2
  intro μ10 e8
  have h := h μ10 e8
  have v := v μ10 e8
  refine ⟨h.1, ?_⟩
  have v := v h.1
  have h := h.2
  intro μ12 e10
  have h := h μ12 e10
  have v := v μ12 e10
  exact hQ _ h v
set_option maxRecDepth 100000 in
set_option maxHeartbeats 4000000 in
theorem jaX12_lay {Q Q' : km_S → Prop} (hQ : ∀ y0, Q y0 → Q' y0) : ∀ (l1 : Int32) (l2 : Int32) (l3 : Int32) (μ : km_S), wX12_lay l1 l2 l3 μ Q → vX12_lay l1 l2 l3 μ Q' := by
  intro l1 l2 l3 μ h
  unfold wX12_lay at h
  unfold vX12_lay
  refine jaX12_at0 ?_ _ _ _ h
  intro r2 μ1 h
  intro e1
  have h := h.2
  intro e2
  have h := h.2
  intro μ5 e3
  have h := h μ5 e3
  intro e4
  have h := h.2
  intro e5
  have h := h.2
  intro μ8 e6
  have h := h μ8 e6
  intro e7
  have h := h.2
  intro μ10 e8
  have h := h μ10 e8
  intro e9
  have h := h.2
  intro μ12 e10
  have h := h μ12 e10
  exact hQ _ h
set_option maxRecDepth 100000 in
set_option maxHeartbeats 4000000 in
theorem jfX12_lay {I : km_S → Prop} (W : gw_ I [31, 32, 39, 40]) {Q : km_S → Prop} (hQ : ∀ y0, I y0 → Q y0) : ∀ (l1 : Int32) (l2 : Int32) (l3 : Int32) (μ : km_S), I μ → vX12_lay l1 l2 l3 μ Q := by
  intro l1 l2 l3 μ i
  unfold vX12_lay
  refine jfX12_at0 (I := I) (gw_sub W (by decide)) ?_ _ _ _ i
  intro r2 μ1 iμ1
  intro e1
  intro e2
  intro μ5 e3
  have iμ5 : I μ5 := by rw [e3]; exact ((W _ iμ1) 32 (by decide)).2.1 _ _
  intro e4
  intro e5
  intro μ8 e6
  have iμ8 : I μ8 := by rw [e6]; exact ((W _ iμ5) 31 (by decide)).2.1 _ _
  intro e7
  intro μ10 e8
  have iμ10 : I μ10 := by rw [e8]; exact ((W _ iμ8) 39 (by decide)).2.1 _ _
  intro e9
  intro μ12 e10
  have iμ12 : I μ12 := by rw [e10]; exact ((W _ iμ10) 40 (by decide)).2.1 _ _
  exact hQ _ iμ12
def vX12_lift_71 (k21 : Int32 → Int32 → Int32 → Int32 → km_S → Prop) (Q : km_S → Prop) (l1 : Int32) (l2 : Int32) (l3 : Int32) (l4 : Int32) (μ : km_S) : Prop := ∀ v1 : Int32, v1 = l4 + 1 → k21 l1 l2 l3 v1 μ
set_option maxRecDepth 100000 in
set_option maxHeartbeats 4000000 in
theorem jcX12_lift_71 {k21 k21' k21'' : Int32 → Int32 → Int32 → Int32 → km_S → Prop} (hk21 : ∀ y0 y1 y2 y3 y4, k21 y0 y1 y2 y3 y4 → k21' y0 y1 y2 y3 y4 → k21'' y0 y1 y2 y3 y4) {Q Q' Q'' : km_S → Prop} (hQ : ∀ y0, Q y0 → Q' y0 → Q'' y0) : ∀ (l1 : Int32) (l2 : Int32) (l3 : Int32) (l4 : Int32) (μ : km_S), wX12_lift_71 k21 Q l1 l2 l3 l4 μ → vX12_lift_71 k21' Q' l1 l2 l3 l4 μ → wX12_lift_71 k21'' Q'' l1 l2 l3 l4 μ := by
  intro l1 l2 l3 l4 μ h v
  unfold wX12_lift_71 at h
  unfold vX12_lift_71 at v
  unfold wX12_lift_71
  intro v1 e1
  have h := h v1 e1
  have v := v v1 e1
  exact hk21 _ _ _ _ _ h v
set_option maxRecDepth 100000 in
set_option maxHeartbeats 4000000 in
theorem jaX12_lift_71 {k21 k21' : Int32 → Int32 → Int32 → Int32 → km_S → Prop} (hk21 : ∀ y0 y1 y2 y3 y4, k21 y0 y1 y2 y3 y4 → k21' y0 y1 y2 y3 y4) {Q Q' : km_S → Prop} (hQ : ∀ y0, Q y0 → Q' y0) : ∀ (l1 : Int32) (l2 : Int32) (l3 : Int32) (l4 : Int32) (μ : km_S), wX12_lift_71 k21 Q l1 l2 l3 l4 μ → vX12_lift_71 k21' Q' l1 l2 l3 l4 μ := by
  intro l1 l2 l3 l4 μ h
  unfold wX12_lift_71 at h
  unfold vX12_lift_71
  intro v1 e1
  have h := h v1 e1
  exact hk21 _ _ _ _ _ h
set_option maxRecDepth 100000 in
set_option maxHeartbeats 4000000 in
theorem jfX12_lift_71 {I : km_S → Prop} (W : gw_ I []) {k21 : Int32 → Int32 → Int32 → Int32 → km_S → Prop} (hk21 : ∀ y0 y1 y2 y3 y4, I y4 → k21 y0 y1 y2 y3 y4) {Q : km_S → Prop} (hQ : ∀ y0, I y0 → Q y0) : ∀ (l1 : Int32) (l2 : Int32) (l3 : Int32) (l4 : Int32) (μ : km_S), I μ → vX12_lift_71 k21 Q l1 l2 l3 l4 μ := by
  intro l1 l2 l3 l4 μ i
  unfold vX12_lift_71
  intro v1 e1
  exact hk21 _ _ _ _ _ i
def vX12_lift_77 (Q : km_S → Prop) (l2 : Int32) (l3 : Int32) (μ : km_S) : Prop := vp_in l2 120 → ∀ μ3, μ3 = km_sa μ 31 l2.toNatClampNeg l3 → Q μ3
set_option maxRecDepth 100000 in
set_option maxHeartbeats 4000000 in
theorem jcX12_lift_77 {Q Q' Q'' : km_S → Prop} (hQ : ∀ y0, Q y0 → Q' y0 → Q'' y0) : ∀ (l2 : Int32) (l3 : Int32) (μ : km_S), wX12_lift_77 Q l2 l3 μ → vX12_lift_77 Q' l2 l3 μ → wX12_lift_77 Q'' l2 l3 μ := by
  intro l2 l3 μ h v
  unfold wX12_lift_77 at h
  unfold vX12_lift_77 at v
  unfold wX12_lift_77
  refine ⟨h.1, ?_⟩
  have v := v h.1
  have h := h.2
  intro μ3 e2
  have h := h μ3 e2
  have v := v μ3 e2
  exact hQ _ h v
set_option maxRecDepth 100000 in
set_option maxHeartbeats 4000000 in
theorem jaX12_lift_77 {Q Q' : km_S → Prop} (hQ : ∀ y0, Q y0 → Q' y0) : ∀ (l2 : Int32) (l3 : Int32) (μ : km_S), wX12_lift_77 Q l2 l3 μ → vX12_lift_77 Q' l2 l3 μ := by
  intro l2 l3 μ h
  unfold wX12_lift_77 at h
  unfold vX12_lift_77
  intro e1
  have h := h.2
  intro μ3 e2
  have h := h μ3 e2
  exact hQ _ h
set_option maxRecDepth 100000 in
set_option maxHeartbeats 4000000 in
theorem jfX12_lift_77 {I : km_S → Prop} (W : gw_ I [31]) {Q : km_S → Prop} (hQ : ∀ y0, I y0 → Q y0) : ∀ (l2 : Int32) (l3 : Int32) (μ : km_S), I μ → vX12_lift_77 Q l2 l3 μ := by
  intro l2 l3 μ i
  unfold vX12_lift_77
  intro e1
  intro μ3 e2
  have iμ3 : I μ3 := by rw [e2]; exact ((W _ i) 31 (by decide)).2.1 _ _
  exact hQ _ iμ3
def vX12_lift_21 (k77 : Int32 → Int32 → km_S → Prop) (Q : km_S → Prop) : Nat → Int32 → Int32 → Int32 → Int32 → km_S → Prop
  | 0, _, _, _, _, _ => True
  | n + 1, l1, l2, l3, l4, μ => vp_in l2 120 → (((km_a μ 31 l2.toNatClampNeg) ≤ l4 → k77 l2 l3 μ) ∧ (¬ ((km_a μ 31 l2.toNatClampNeg) ≤ l4) → vp_in ((20 * l2) + l4) 2400 → ∀ v7, v7 = km_a μ 32 ((20 * l2) + l4).toNatClampNeg → ((¬ v7 = l1 → vp_in ((20 * l2) + l3) 2400 → ∀ μ10, μ10 = km_sa μ 32 ((20 * l2) + l3).toNatClampNeg v7 → ∀ v11 : Int32, v11 = l3 + 1 → vX12_lift_71 (vX12_lift_21 k77 Q n) Q l1 l2 v11 l4 μ10) ∧ (v7 = l1 → vX12_lift_71 (vX12_lift_21 k77 Q n) Q l1 l2 l3 l4 μ))))
set_option maxRecDepth 100000 in
set_option maxHeartbeats 4000000 in
theorem jcX12_lift_21 {k77 k77' k77'' : Int32 → Int32 → km_S → Prop} (hk77 : ∀ y0 y1 y2, k77 y0 y1 y2 → k77' y0 y1 y2 → k77'' y0 y1 y2) {Q Q' Q'' : km_S → Prop} (hQ : ∀ y0, Q y0 → Q' y0 → Q'' y0) : ∀ (n : Nat) (l1 : Int32) (l2 : Int32) (l3 : Int32) (l4 : Int32) (μ : km_S), wX12_lift_21 k77 Q n l1 l2 l3 l4 μ → vX12_lift_21 k77' Q' n l1 l2 l3 l4 μ → wX12_lift_21 k77'' Q'' n l1 l2 l3 l4 μ := by
  intro n
  induction n with
  | zero => intro l1 l2 l3 l4 μ h; exact h.elim
  | succ n ih =>
    intro l1 l2 l3 l4 μ h v
    unfold wX12_lift_21 at h
    unfold vX12_lift_21 at v
    unfold wX12_lift_21
    refine ⟨h.1, ?_⟩
    have v := v h.1
    have h := h.2
    refine ⟨?_, ?_⟩
    · have h := h.1
      have v := v.1
      intro e2
      have h := h e2
      have v := v e2
      exact hk77 _ _ _ h v
    · have h := h.2
      have v := v.2
      intro e3
      have h := h e3
      have v := v e3
      refine ⟨h.1, ?_⟩
      have v := v h.1
      have h := h.2
      intro v7 e5
      have h := h v7 e5
      have v := v v7 e5
      refine ⟨?_, ?_⟩
      · have h := h.1
        have v := v.1
        intro e6
        have h := h e6
        have v := v e6
        refine ⟨h.1, ?_⟩
        have v := v h.1
        have h := h.2
        intro μ10 e8
        have h := h μ10 e8
        have v := v μ10 e8
        intro v11 e9
        have h := h v11 e9
        have v := v v11 e9
        exact jcX12_lift_71 (k21 := wX12_lift_21 k77 Q n) (k21' := vX12_lift_21 k77' Q' n) (k21'' := wX12_lift_21 k77'' Q'' n) (fun _ _ _ _ _ h v => ih _ _ _ _ _ h v) hQ _ _ _ _ _ h v
      · have h := h.2
        have v := v.2
        intro e10
        have h := h e10
        have v := v e10
        exact jcX12_lift_71 (k21 := wX12_lift_21 k77 Q n) (k21' := vX12_lift_21 k77' Q' n) (k21'' := wX12_lift_21 k77'' Q'' n) (fun _ _ _ _ _ h v => ih _ _ _ _ _ h v) hQ _ _ _ _ _ h v
set_option maxRecDepth 100000 in
set_option maxHeartbeats 4000000 in
theorem jaX12_lift_21 {k77 k77' : Int32 → Int32 → km_S → Prop} (hk77 : ∀ y0 y1 y2, k77 y0 y1 y2 → k77' y0 y1 y2) {Q Q' : km_S → Prop} (hQ : ∀ y0, Q y0 → Q' y0) : ∀ (n m : Nat) (l1 : Int32) (l2 : Int32) (l3 : Int32) (l4 : Int32) (μ : km_S), wX12_lift_21 k77 Q n l1 l2 l3 l4 μ → vX12_lift_21 k77' Q' m l1 l2 l3 l4 μ := by
  intro n
  induction n with
  | zero => intro m l1 l2 l3 l4 μ h; exact h.elim
  | succ n ih =>
    intro m l1 l2 l3 l4 μ h
    cases m with
    | zero => exact trivial
    | succ m =>
      unfold wX12_lift_21 at h
      unfold vX12_lift_21
      intro e1
      have h := h.2
      refine ⟨?_, ?_⟩
      · have h := h.1
        intro e2
        have h := h e2
        exact hk77 _ _ _ h
      · have h := h.2
        intro e3
        have h := h e3
        intro e4
        have h := h.2
        intro v7 e5
        have h := h v7 e5
        refine ⟨?_, ?_⟩
        · have h := h.1
          intro e6
          have h := h e6
          intro e7
          have h := h.2
          intro μ10 e8
          have h := h μ10 e8
          intro v11 e9
          have h := h v11 e9
          exact jaX12_lift_71 (k21 := wX12_lift_21 k77 Q n) (k21' := vX12_lift_21 k77' Q' m) (fun _ _ _ _ _ h => ih m _ _ _ _ _ h) hQ _ _ _ _ _ h
        · have h := h.2
          intro e10
          have h := h e10
          exact jaX12_lift_71 (k21 := wX12_lift_21 k77 Q n) (k21' := vX12_lift_21 k77' Q' m) (fun _ _ _ _ _ h => ih m _ _ _ _ _ h) hQ _ _ _ _ _ h
set_option maxRecDepth 100000 in
set_option maxHeartbeats 4000000 in
theorem jfX12_lift_21 {I : km_S → Prop} (W : gw_ I [32]) {k77 : Int32 → Int32 → km_S → Prop} (hk77 : ∀ y0 y1 y2, I y2 → k77 y0 y1 y2) {Q : km_S → Prop} (hQ : ∀ y0, I y0 → Q y0) : ∀ (n : Nat) (l1 : Int32) (l2 : Int32) (l3 : Int32) (l4 : Int32) (μ : km_S), I μ → vX12_lift_21 k77 Q n l1 l2 l3 l4 μ := by
  intro n
  induction n with
  | zero => intro l1 l2 l3 l4 μ i; exact trivial
  | succ n ih =>
    intro l1 l2 l3 l4 μ i
    unfold vX12_lift_21
    intro e1
    refine ⟨?_, ?_⟩
    · intro e2
      exact hk77 _ _ _ i
    · intro e3
      intro e4
      intro v7 e5
      refine ⟨?_, ?_⟩
      · intro e6
        intro e7
        intro μ10 e8
        have iμ10 : I μ10 := by rw [e8]; exact ((W _ i) 32 (by decide)).2.1 _ _
        intro v11 e9
        exact jfX12_lift_71 (I := I) (gw_sub W (by decide)) (k21 := vX12_lift_21 k77 Q n) (fun _ _ _ _ _ i => ih _ _ _ _ _ i) hQ _ _ _ _ _ iμ10
      · intro e10
        exact jfX12_lift_71 (I := I) (gw_sub W (by decide)) (k21 := vX12_lift_21 k77 Q n) (fun _ _ _ _ _ i => ih _ _ _ _ _ i) hQ _ _ _ _ _ i
def vX12_lift (l1 : Int32) (μ : km_S) (Q : km_S → Prop) : Prop := vp_in l1 400 → vp_in l1 400 → vX12_at0 (km_a μ 39 l1.toNatClampNeg) (km_a μ 40 l1.toNatClampNeg) μ (fun r15 μ14 => ∀ j, vX12_lift_21 (vX12_lift_77 Q) Q j l1 r15 0 0 μ14)
set_option maxRecDepth 100000 in
set_option maxHeartbeats 4000000 in
theorem jcX12_lift {Q Q' Q'' : km_S → Prop} (hQ : ∀ y0, Q y0 → Q' y0 → Q'' y0) : ∀ (l1 : Int32) (μ : km_S), wX12_lift l1 μ Q → vX12_lift l1 μ Q' → wX12_lift l1 μ Q'' := by
  intro l1 μ h v
  unfold wX12_lift at h
  unfold vX12_lift at v
  unfold wX12_lift
  refine ⟨h.1, ?_⟩
  have v := v h.1
  have h := h.2
  refine ⟨h.1, ?_⟩
  have v := v h.1
  have h := h.2
  refine jcX12_at0 ?_ _ _ _ h v
  intro r15 μ14 h v
  obtain ⟨j, h⟩ := h
  refine ⟨j, ?_⟩
  have v := v j
  exact jcX12_lift_21 (k77 := wX12_lift_77 Q) (k77' := vX12_lift_77 Q') (k77'' := wX12_lift_77 Q'') (fun _ _ _ h v => jcX12_lift_77 hQ _ _ _ h v) hQ _ _ _ _ _ _ h v
set_option maxRecDepth 100000 in
set_option maxHeartbeats 4000000 in
theorem jaX12_lift {Q Q' : km_S → Prop} (hQ : ∀ y0, Q y0 → Q' y0) : ∀ (l1 : Int32) (μ : km_S), wX12_lift l1 μ Q → vX12_lift l1 μ Q' := by
  intro l1 μ h
  unfold wX12_lift at h
  unfold vX12_lift
  intro e1
  have h := h.2
  intro e2
  have h := h.2
  refine jaX12_at0 ?_ _ _ _ h
  intro r15 μ14 h
  obtain ⟨j, h⟩ := h
  intro j9
  exact jaX12_lift_21 (k77 := wX12_lift_77 Q) (k77' := vX12_lift_77 Q') (fun _ _ _ h => jaX12_lift_77 hQ _ _ _ h) hQ _ j9 _ _ _ _ _ h
set_option maxRecDepth 100000 in
set_option maxHeartbeats 4000000 in
theorem jfX12_lift {I : km_S → Prop} (W : gw_ I [31, 32]) {Q : km_S → Prop} (hQ : ∀ y0, I y0 → Q y0) : ∀ (l1 : Int32) (μ : km_S), I μ → vX12_lift l1 μ Q := by
  intro l1 μ i
  unfold vX12_lift
  intro e1
  intro e2
  refine jfX12_at0 (I := I) (gw_sub W (by decide)) ?_ _ _ _ i
  intro r15 μ14 iμ14
  intro j
  exact jfX12_lift_21 (I := I) (gw_sub W (by decide)) (k77 := vX12_lift_77 Q) (fun _ _ _ i => jfX12_lift_77 (I := I) (gw_sub W (by decide)) hQ _ _ _ i) hQ _ _ _ _ _ _ iμ14
def vX12_order (l1 : Int32) (l2 : Int32) (l3 : Int32) (l4 : Int32) (μ : km_S) (Q : Int32 → km_S → Prop) : Prop := ∀ μ1, μ1 = km_si μ 1 0 → vX12_isReach l1 μ1 (fun r3 μ2 => ((¬ r3 = 0 → vp_in l1 10 → (((km_a μ2 22 l1.toNatClampNeg) = 0 → Q (-1) μ2) ∧ (¬ ((km_a μ2 22 l1.toNatClampNeg) = 0) → ((l2 < 0 → Q (-1) μ2) ∧ (¬ (l2 < 0) → ((15 < l2 → Q (-1) μ2) ∧ (¬ (15 < l2) → ((l3 < 1 → Q (-1) μ2) ∧ (¬ (l3 < 1) → ((9 < l3 → Q (-1) μ2) ∧ (¬ (9 < l3) → ((l4 < 1 → Q (-1) μ2) ∧ (¬ (l4 < 1) → ((100 < l4 → Q (-1) μ2) ∧ (¬ (100 < l4) → ((¬ (km_i μ2 8) = 60 → vp_in (km_i μ2 8) 60 → ∀ μ15, μ15 = km_sa μ2 47 (km_i μ2 8).toNatClampNeg l1 → vp_in (km_i μ15 8) 60 → ∀ μ17, μ17 = km_sa μ15 48 (km_i μ15 8).toNatClampNeg l2 → vp_in (km_i μ17 8) 60 → ∀ μ19, μ19 = km_sa μ17 49 (km_i μ17 8).toNatClampNeg l3 → vp_in (km_i μ19 8) 60 → ∀ μ21, μ21 = km_sa μ19 50 (km_i μ19 8).toNatClampNeg l4 → ∀ μ22, μ22 = km_si μ21 8 ((km_i μ21 8) + 1) → Q ((km_i μ22 8) - 1) μ22) ∧ ((km_i μ2 8) = 60 → Q (-1) μ2))))))))))))))))) ∧ (r3 = 0 → vX12_fail μ2 (fun r24 μ23 => Q r24 μ23))))
set_option maxRecDepth 100000 in
set_option maxHeartbeats 4000000 in
theorem jcX12_order {Q Q' Q'' : Int32 → km_S → Prop} (hQ : ∀ y0 y1, Q y0 y1 → Q' y0 y1 → Q'' y0 y1) : ∀ (l1 : Int32) (l2 : Int32) (l3 : Int32) (l4 : Int32) (μ : km_S), wX12_order l1 l2 l3 l4 μ Q → vX12_order l1 l2 l3 l4 μ Q' → wX12_order l1 l2 l3 l4 μ Q'' := by
  intro l1 l2 l3 l4 μ h v
  unfold wX12_order at h
  unfold vX12_order at v
  unfold wX12_order
  intro μ1 e1
  have h := h μ1 e1
  have v := v μ1 e1
  refine jcX12_isReach ?_ _ _ h v
  intro r3 μ2 h v
  refine ⟨?_, ?_⟩
  · have h := h.1
    have v := v.1
    intro e2
    have h := h e2
    have v := v e2
    refine ⟨h.1, ?_⟩
    have v := v h.1
    have h := h.2
    refine ⟨?_, ?_⟩
    · have h := h.1
      have v := v.1
      intro e4
      have h := h e4
      have v := v e4
      exact hQ _ _ h v
    · have h := h.2
      have v := v.2
      intro e5
      have h := h e5
      have v := v e5
      refine ⟨?_, ?_⟩
      · have h := h.1
        have v := v.1
        intro e6
        have h := h e6
        have v := v e6
        exact hQ _ _ h v
      · have h := h.2
        have v := v.2
        intro e7
        have h := h e7
        have v := v e7
        refine ⟨?_, ?_⟩
        · have h := h.1
          have v := v.1
          intro e8
          have h := h e8
          have v := v e8
          exact hQ _ _ h v
        · have h := h.2
          have v := v.2
          intro e9
          have h := h e9
          have v := v e9
          refine ⟨?_, ?_⟩
          · have h := h.1
            have v := v.1
            intro e10
            have h := h e10
            have v := v e10
            exact hQ _ _ h v
          · have h := h.2
            have v := v.2
            intro e11
            have h := h e11
            have v := v e11
            refine ⟨?_, ?_⟩
            · have h := h.1
              have v := v.1
              intro e12
              have h := h e12
              have v := v e12
              exact hQ _ _ h v
            · have h := h.2
              have v := v.2
              intro e13
              have h := h e13
              have v := v e13
              refine ⟨?_, ?_⟩
              · have h := h.1
                have v := v.1
                intro e14
                have h := h e14
                have v := v e14
                exact hQ _ _ h v
              · have h := h.2
                have v := v.2
                intro e15
                have h := h e15
                have v := v e15
                refine ⟨?_, ?_⟩
                · have h := h.1
                  have v := v.1
                  intro e16
                  have h := h e16
                  have v := v e16
                  exact hQ _ _ h v
                · have h := h.2
                  have v := v.2
                  intro e17
                  have h := h e17
                  have v := v e17
                  refine ⟨?_, ?_⟩
                  · have h := h.1
                    have v := v.1
                    intro e18
                    have h := h e18
                    have v := v e18
                    refine ⟨h.1, ?_⟩
                    have v := v h.1
                    have h := h.2
                    intro μ15 e20
                    have h := h μ15 e20
                    have v := v μ15 e20
                    refine ⟨h.1, ?_⟩
                    have v := v h.1
                    have h := h.2
                    intro μ17 e22
                    have h := h μ17 e22
                    have v := v μ17 e22
                    refine ⟨h.1, ?_⟩
                    have v := v h.1
                    have h := h.2
                    intro μ19 e24
                    have h := h μ19 e24
                    have v := v μ19 e24
                    refine ⟨h.1, ?_⟩
                    have v := v h.1
                    have h := h.2
                    intro μ21 e26
                    have h := h μ21 e26
                    have v := v μ21 e26
                    intro μ22 e27
                    have h := h μ22 e27
                    have v := v μ22 e27
                    exact hQ _ _ h v
                  · have h := h.2
                    have v := v.2
                    intro e28
                    have h := h e28
                    have v := v e28
                    exact hQ _ _ h v
  · have h := h.2
    have v := v.2
    intro e29
    have h := h e29
    have v := v e29
    refine jcX12_fail ?_ _ h v
    intro r24 μ23 h v
    exact hQ _ _ h v
set_option maxRecDepth 100000 in
set_option maxHeartbeats 4000000 in
theorem jaX12_order {Q Q' : Int32 → km_S → Prop} (hQ : ∀ y0 y1, Q y0 y1 → Q' y0 y1) : ∀ (l1 : Int32) (l2 : Int32) (l3 : Int32) (l4 : Int32) (μ : km_S), wX12_order l1 l2 l3 l4 μ Q → vX12_order l1 l2 l3 l4 μ Q' := by
  intro l1 l2 l3 l4 μ h
  unfold wX12_order at h
  unfold vX12_order
  intro μ1 e1
  have h := h μ1 e1
  refine jaX12_isReach ?_ _ _ h
  intro r3 μ2 h
  refine ⟨?_, ?_⟩
  · have h := h.1
    intro e2
    have h := h e2
    intro e3
    have h := h.2
    refine ⟨?_, ?_⟩
    · have h := h.1
      intro e4
      have h := h e4
      exact hQ _ _ h
    · have h := h.2
      intro e5
      have h := h e5
      refine ⟨?_, ?_⟩
      · have h := h.1
        intro e6
        have h := h e6
        exact hQ _ _ h
      · have h := h.2
        intro e7
        have h := h e7
        refine ⟨?_, ?_⟩
        · have h := h.1
          intro e8
          have h := h e8
          exact hQ _ _ h
        · have h := h.2
          intro e9
          have h := h e9
          refine ⟨?_, ?_⟩
          · have h := h.1
            intro e10
            have h := h e10
            exact hQ _ _ h
          · have h := h.2
            intro e11
            have h := h e11
            refine ⟨?_, ?_⟩
            · have h := h.1
              intro e12
              have h := h e12
              exact hQ _ _ h
            · have h := h.2
              intro e13
              have h := h e13
              refine ⟨?_, ?_⟩
              · have h := h.1
                intro e14
                have h := h e14
                exact hQ _ _ h
              · have h := h.2
                intro e15
                have h := h e15
                refine ⟨?_, ?_⟩
                · have h := h.1
                  intro e16
                  have h := h e16
                  exact hQ _ _ h
                · have h := h.2
                  intro e17
                  have h := h e17
                  refine ⟨?_, ?_⟩
                  · have h := h.1
                    intro e18
                    have h := h e18
                    intro e19
                    have h := h.2
                    intro μ15 e20
                    have h := h μ15 e20
                    intro e21
                    have h := h.2
                    intro μ17 e22
                    have h := h μ17 e22
                    intro e23
                    have h := h.2
                    intro μ19 e24
                    have h := h μ19 e24
                    intro e25
                    have h := h.2
                    intro μ21 e26
                    have h := h μ21 e26
                    intro μ22 e27
                    have h := h μ22 e27
                    exact hQ _ _ h
                  · have h := h.2
                    intro e28
                    have h := h e28
                    exact hQ _ _ h
  · have h := h.2
    intro e29
    have h := h e29
    refine jaX12_fail ?_ _ h
    intro r24 μ23 h
    exact hQ _ _ h
set_option maxRecDepth 100000 in
set_option maxHeartbeats 4000000 in
theorem jfX12_order {I : km_S → Prop} (W : gw_ I [1, 8, 47, 48, 49, 50]) {Q : Int32 → km_S → Prop} (hQ : ∀ y0 y1, I y1 → Q y0 y1) : ∀ (l1 : Int32) (l2 : Int32) (l3 : Int32) (l4 : Int32) (μ : km_S), I μ → vX12_order l1 l2 l3 l4 μ Q := by
  intro l1 l2 l3 l4 μ i
  unfold vX12_order
  intro μ1 e1
  have iμ1 : I μ1 := by rw [e1]; exact ((W _ i) 1 (by decide)).1 _
  refine jfX12_isReach (I := I) (gw_sub W (by decide)) ?_ _ _ iμ1
  intro r3 μ2 iμ2
  refine ⟨?_, ?_⟩
  · intro e2
    intro e3
    refine ⟨?_, ?_⟩
    · intro e4
      exact hQ _ _ iμ2
    · intro e5
      refine ⟨?_, ?_⟩
      · intro e6
        exact hQ _ _ iμ2
      · intro e7
        refine ⟨?_, ?_⟩
        · intro e8
          exact hQ _ _ iμ2
        · intro e9
          refine ⟨?_, ?_⟩
          · intro e10
            exact hQ _ _ iμ2
          · intro e11
            refine ⟨?_, ?_⟩
            · intro e12
              exact hQ _ _ iμ2
            · intro e13
              refine ⟨?_, ?_⟩
              · intro e14
                exact hQ _ _ iμ2
              · intro e15
                refine ⟨?_, ?_⟩
                · intro e16
                  exact hQ _ _ iμ2
                · intro e17
                  refine ⟨?_, ?_⟩
                  · intro e18
                    intro e19
                    intro μ15 e20
                    have iμ15 : I μ15 := by rw [e20]; exact ((W _ iμ2) 47 (by decide)).2.1 _ _
                    intro e21
                    intro μ17 e22
                    have iμ17 : I μ17 := by rw [e22]; exact ((W _ iμ15) 48 (by decide)).2.1 _ _
                    intro e23
                    intro μ19 e24
                    have iμ19 : I μ19 := by rw [e24]; exact ((W _ iμ17) 49 (by decide)).2.1 _ _
                    intro e25
                    intro μ21 e26
                    have iμ21 : I μ21 := by rw [e26]; exact ((W _ iμ19) 50 (by decide)).2.1 _ _
                    intro μ22 e27
                    have iμ22 : I μ22 := by rw [e27]; exact ((W _ iμ21) 8 (by decide)).1 _
                    exact hQ _ _ iμ22
                  · intro e28
                    exact hQ _ _ iμ2
  · intro e29
    refine jfX12_fail (I := I) (gw_sub W (by decide)) ?_ _ iμ2
    intro r24 μ23 iμ23
    exact hQ _ _ iμ23
def vX12_wants_17 (Q : Int32 → km_S → Prop) (μ : km_S) : Prop := vX12_fail μ (fun r2 μ1 => Q r2 μ1)
set_option maxRecDepth 100000 in
set_option maxHeartbeats 4000000 in
theorem jcX12_wants_17 {Q Q' Q'' : Int32 → km_S → Prop} (hQ : ∀ y0 y1, Q y0 y1 → Q' y0 y1 → Q'' y0 y1) : ∀ (μ : km_S), wX12_wants_17 Q μ → vX12_wants_17 Q' μ → wX12_wants_17 Q'' μ := by
  intro μ h v
  unfold wX12_wants_17 at h
  unfold vX12_wants_17 at v
  unfold wX12_wants_17
  refine jcX12_fail ?_ _ h v
  intro r2 μ1 h v
  exact hQ _ _ h v
set_option maxRecDepth 100000 in
set_option maxHeartbeats 4000000 in
theorem jaX12_wants_17 {Q Q' : Int32 → km_S → Prop} (hQ : ∀ y0 y1, Q y0 y1 → Q' y0 y1) : ∀ (μ : km_S), wX12_wants_17 Q μ → vX12_wants_17 Q' μ := by
  intro μ h
  unfold wX12_wants_17 at h
  unfold vX12_wants_17
  refine jaX12_fail ?_ _ h
  intro r2 μ1 h
  exact hQ _ _ h
set_option maxRecDepth 100000 in
set_option maxHeartbeats 4000000 in
theorem jfX12_wants_17 {I : km_S → Prop} (W : gw_ I [1]) {Q : Int32 → km_S → Prop} (hQ : ∀ y0 y1, I y1 → Q y0 y1) : ∀ (μ : km_S), I μ → vX12_wants_17 Q μ := by
  intro μ i
  unfold vX12_wants_17
  refine jfX12_fail (I := I) (gw_sub W (by decide)) ?_ _ i
  intro r2 μ1 iμ1
  exact hQ _ _ iμ1
def vX12_wants (l1 : Int32) (μ : km_S) (Q : Int32 → km_S → Prop) : Prop := ∀ μ3, μ3 = km_si μ 1 0 → ((l1 < 0 → vX12_wants_17 Q μ3) ∧ (¬ (l1 < 0) → ((l1 < (km_i μ3 8) → vp_in l1 60 → Q (km_a μ3 50 l1.toNatClampNeg) μ3) ∧ (¬ (l1 < (km_i μ3 8)) → vX12_wants_17 Q μ3))))
set_option maxRecDepth 100000 in
set_option maxHeartbeats 4000000 in
theorem jcX12_wants {Q Q' Q'' : Int32 → km_S → Prop} (hQ : ∀ y0 y1, Q y0 y1 → Q' y0 y1 → Q'' y0 y1) : ∀ (l1 : Int32) (μ : km_S), wX12_wants l1 μ Q → vX12_wants l1 μ Q' → wX12_wants l1 μ Q'' := by
  intro l1 μ h v
  unfold wX12_wants at h
  unfold vX12_wants at v
  unfold wX12_wants
  intro μ3 e1
  have h := h μ3 e1
  have v := v μ3 e1
  refine ⟨?_, ?_⟩
  · have h := h.1
    have v := v.1
    intro e2
    have h := h e2
    have v := v e2
    exact jcX12_wants_17 hQ _ h v
  · have h := h.2
    have v := v.2
    intro e3
    have h := h e3
    have v := v e3
    refine ⟨?_, ?_⟩
    · have h := h.1
      have v := v.1
      intro e4
      have h := h e4
      have v := v e4
      refine ⟨h.1, ?_⟩
      have v := v h.1
      have h := h.2
      exact hQ _ _ h v
    · have h := h.2
      have v := v.2
      intro e6
      have h := h e6
      have v := v e6
      exact jcX12_wants_17 hQ _ h v
set_option maxRecDepth 100000 in
set_option maxHeartbeats 4000000 in
theorem jaX12_wants {Q Q' : Int32 → km_S → Prop} (hQ : ∀ y0 y1, Q y0 y1 → Q' y0 y1) : ∀ (l1 : Int32) (μ : km_S), wX12_wants l1 μ Q → vX12_wants l1 μ Q' := by
  intro l1 μ h
  unfold wX12_wants at h
  unfold vX12_wants
  intro μ3 e1
  have h := h μ3 e1
  refine ⟨?_, ?_⟩
  · have h := h.1
    intro e2
    have h := h e2
    exact jaX12_wants_17 hQ _ h
  · have h := h.2
    intro e3
    have h := h e3
    refine ⟨?_, ?_⟩
    · have h := h.1
      intro e4
      have h := h e4
      intro e5
      have h := h.2
      exact hQ _ _ h
    · have h := h.2
      intro e6
      have h := h e6
      exact jaX12_wants_17 hQ _ h
set_option maxRecDepth 100000 in
set_option maxHeartbeats 4000000 in
theorem jfX12_wants {I : km_S → Prop} (W : gw_ I [1]) {Q : Int32 → km_S → Prop} (hQ : ∀ y0 y1, I y1 → Q y0 y1) : ∀ (l1 : Int32) (μ : km_S), I μ → vX12_wants l1 μ Q := by
  intro l1 μ i
  unfold vX12_wants
  intro μ3 e1
  have iμ3 : I μ3 := by rw [e1]; exact ((W _ i) 1 (by decide)).1 _
  refine ⟨?_, ?_⟩
  · intro e2
    exact jfX12_wants_17 (I := I) (gw_sub W (by decide)) hQ _ iμ3
  · intro e3
    refine ⟨?_, ?_⟩
    · intro e4
      intro e5
      exact hQ _ _ iμ3
    · intro e6
      exact jfX12_wants_17 (I := I) (gw_sub W (by decide)) hQ _ iμ3
def vX12_log (l1 : Int32) (l2 : Int32) (μ : km_S) (Q : Int32 → km_S → Prop) : Prop := ∀ μ1, μ1 = km_si μ 1 0 → vX12_isLog l1 μ1 (fun r3 μ2 => ((¬ r3 = 0 → ∀ v5, v5 = l2 → ((v5 = 0 → vp_in l1 400 → Q (km_a μ2 35 l1.toNatClampNeg) μ2) ∧ ((v5 = 1 → vp_in l1 400 → Q (km_a μ2 36 l1.toNatClampNeg) μ2) ∧ ((v5 = 2 → vp_in l1 400 → Q (km_a μ2 37 l1.toNatClampNeg) μ2) ∧ ((v5 = 3 → vp_in l1 400 → Q (km_a μ2 38 l1.toNatClampNeg) μ2) ∧ ((v5 = 4 → vp_in l1 400 → Q (km_a μ2 39 l1.toNatClampNeg) μ2) ∧ ((v5 = 5 → vp_in l1 400 → Q (km_a μ2 40 l1.toNatClampNeg) μ2) ∧ ((v5 = 6 → vp_in l1 400 → Q (km_a μ2 41 l1.toNatClampNeg) μ2) ∧ ((v5 = 7 → vp_in l1 400 → Q (km_a μ2 42 l1.toNatClampNeg) μ2) ∧ (¬ v5 = 0 → ¬ v5 = 1 → ¬ v5 = 2 → ¬ v5 = 3 → ¬ v5 = 4 → ¬ v5 = 5 → ¬ v5 = 6 → ¬ v5 = 7 → vX12_fail μ2 (fun r23 μ22 => Q r23 μ22))))))))))) ∧ (r3 = 0 → vX12_fail μ2 (fun r25 μ24 => Q r25 μ24))))
set_option maxRecDepth 100000 in
set_option maxHeartbeats 4000000 in
theorem jcX12_log {Q Q' Q'' : Int32 → km_S → Prop} (hQ : ∀ y0 y1, Q y0 y1 → Q' y0 y1 → Q'' y0 y1) : ∀ (l1 : Int32) (l2 : Int32) (μ : km_S), wX12_log l1 l2 μ Q → vX12_log l1 l2 μ Q' → wX12_log l1 l2 μ Q'' := by
  intro l1 l2 μ h v
  unfold wX12_log at h
  unfold vX12_log at v
  unfold wX12_log
  intro μ1 e1
  have h := h μ1 e1
  have v := v μ1 e1
  refine jcX12_isLog ?_ _ _ h v
  intro r3 μ2 h v
  refine ⟨?_, ?_⟩
  · have h := h.1
    have v := v.1
    intro e2
    have h := h e2
    have v := v e2
    intro v5 e3
    have h := h v5 e3
    have v := v v5 e3
    refine ⟨?_, ?_⟩
    · have h := h.1
      have v := v.1
      intro e4
      have h := h e4
      have v := v e4
      refine ⟨h.1, ?_⟩
      have v := v h.1
      have h := h.2
      exact hQ _ _ h v
    · have h := h.2
      have v := v.2
      refine ⟨?_, ?_⟩
      · have h := h.1
        have v := v.1
        intro e6
        have h := h e6
        have v := v e6
        refine ⟨h.1, ?_⟩
        have v := v h.1
        have h := h.2
        exact hQ _ _ h v
      · have h := h.2
        have v := v.2
        refine ⟨?_, ?_⟩
        · have h := h.1
          have v := v.1
          intro e8
          have h := h e8
          have v := v e8
          refine ⟨h.1, ?_⟩
          have v := v h.1
          have h := h.2
          exact hQ _ _ h v
        · have h := h.2
          have v := v.2
          refine ⟨?_, ?_⟩
          · have h := h.1
            have v := v.1
            intro e10
            have h := h e10
            have v := v e10
            refine ⟨h.1, ?_⟩
            have v := v h.1
            have h := h.2
            exact hQ _ _ h v
          · have h := h.2
            have v := v.2
            refine ⟨?_, ?_⟩
            · have h := h.1
              have v := v.1
              intro e12
              have h := h e12
              have v := v e12
              refine ⟨h.1, ?_⟩
              have v := v h.1
              have h := h.2
              exact hQ _ _ h v
            · have h := h.2
              have v := v.2
              refine ⟨?_, ?_⟩
              · have h := h.1
                have v := v.1
                intro e14
                have h := h e14
                have v := v e14
                refine ⟨h.1, ?_⟩
                have v := v h.1
                have h := h.2
                exact hQ _ _ h v
              · have h := h.2
                have v := v.2
                refine ⟨?_, ?_⟩
                · have h := h.1
                  have v := v.1
                  intro e16
                  have h := h e16
                  have v := v e16
                  refine ⟨h.1, ?_⟩
                  have v := v h.1
                  have h := h.2
                  exact hQ _ _ h v
                · have h := h.2
                  have v := v.2
                  refine ⟨?_, ?_⟩
                  · have h := h.1
                    have v := v.1
                    intro e18
                    have h := h e18
                    have v := v e18
                    refine ⟨h.1, ?_⟩
                    have v := v h.1
                    have h := h.2
                    exact hQ _ _ h v
                  · have h := h.2
                    have v := v.2
                    intro e20 e21 e22 e23 e24 e25 e26 e27
                    have h := h e20 e21 e22 e23 e24 e25 e26 e27
                    have v := v e20 e21 e22 e23 e24 e25 e26 e27
                    refine jcX12_fail ?_ _ h v
                    intro r23 μ22 h v
                    exact hQ _ _ h v
  · have h := h.2
    have v := v.2
    intro e28
    have h := h e28
    have v := v e28
    refine jcX12_fail ?_ _ h v
    intro r25 μ24 h v
    exact hQ _ _ h v
set_option maxRecDepth 100000 in
set_option maxHeartbeats 4000000 in
theorem jaX12_log {Q Q' : Int32 → km_S → Prop} (hQ : ∀ y0 y1, Q y0 y1 → Q' y0 y1) : ∀ (l1 : Int32) (l2 : Int32) (μ : km_S), wX12_log l1 l2 μ Q → vX12_log l1 l2 μ Q' := by
  intro l1 l2 μ h
  unfold wX12_log at h
  unfold vX12_log
  intro μ1 e1
  have h := h μ1 e1
  refine jaX12_isLog ?_ _ _ h
  intro r3 μ2 h
  refine ⟨?_, ?_⟩
  · have h := h.1
    intro e2
    have h := h e2
    intro v5 e3
    have h := h v5 e3
    refine ⟨?_, ?_⟩
    · have h := h.1
      intro e4
      have h := h e4
      intro e5
      have h := h.2
      exact hQ _ _ h
    · have h := h.2
      refine ⟨?_, ?_⟩
      · have h := h.1
        intro e6
        have h := h e6
        intro e7
        have h := h.2
        exact hQ _ _ h
      · have h := h.2
        refine ⟨?_, ?_⟩
        · have h := h.1
          intro e8
          have h := h e8
          intro e9
          have h := h.2
          exact hQ _ _ h
        · have h := h.2
          refine ⟨?_, ?_⟩
          · have h := h.1
            intro e10
            have h := h e10
            intro e11
            have h := h.2
            exact hQ _ _ h
          · have h := h.2
            refine ⟨?_, ?_⟩
            · have h := h.1
              intro e12
              have h := h e12
              intro e13
              have h := h.2
              exact hQ _ _ h
            · have h := h.2
              refine ⟨?_, ?_⟩
              · have h := h.1
                intro e14
                have h := h e14
                intro e15
                have h := h.2
                exact hQ _ _ h
              · have h := h.2
                refine ⟨?_, ?_⟩
                · have h := h.1
                  intro e16
                  have h := h e16
                  intro e17
                  have h := h.2
                  exact hQ _ _ h
                · have h := h.2
                  refine ⟨?_, ?_⟩
                  · have h := h.1
                    intro e18
                    have h := h e18
                    intro e19
                    have h := h.2
                    exact hQ _ _ h
                  · have h := h.2
                    intro e20 e21 e22 e23 e24 e25 e26 e27
                    have h := h e20 e21 e22 e23 e24 e25 e26 e27
                    refine jaX12_fail ?_ _ h
                    intro r23 μ22 h
                    exact hQ _ _ h
  · have h := h.2
    intro e28
    have h := h e28
    refine jaX12_fail ?_ _ h
    intro r25 μ24 h
    exact hQ _ _ h
set_option maxRecDepth 100000 in
set_option maxHeartbeats 4000000 in
theorem jfX12_log {I : km_S → Prop} (W : gw_ I [1]) {Q : Int32 → km_S → Prop} (hQ : ∀ y0 y1, I y1 → Q y0 y1) : ∀ (l1 : Int32) (l2 : Int32) (μ : km_S), I μ → vX12_log l1 l2 μ Q := by
  intro l1 l2 μ i
  unfold vX12_log
  intro μ1 e1
  have iμ1 : I μ1 := by rw [e1]; exact ((W _ i) 1 (by decide)).1 _
  refine jfX12_isLog (I := I) (gw_sub W (by decide)) ?_ _ _ iμ1
  intro r3 μ2 iμ2
  refine ⟨?_, ?_⟩
  · intro e2
    intro v5 e3
    refine ⟨?_, ?_⟩
    · intro e4
      intro e5
      exact hQ _ _ iμ2
    · refine ⟨?_, ?_⟩
      · intro e6
        intro e7
        exact hQ _ _ iμ2
      · refine ⟨?_, ?_⟩
        · intro e8
          intro e9
          exact hQ _ _ iμ2
        · refine ⟨?_, ?_⟩
          · intro e10
            intro e11
            exact hQ _ _ iμ2
          · refine ⟨?_, ?_⟩
            · intro e12
              intro e13
              exact hQ _ _ iμ2
            · refine ⟨?_, ?_⟩
              · intro e14
                intro e15
                exact hQ _ _ iμ2
              · refine ⟨?_, ?_⟩
                · intro e16
                  intro e17
                  exact hQ _ _ iμ2
                · refine ⟨?_, ?_⟩
                  · intro e18
                    intro e19
                    exact hQ _ _ iμ2
                  · intro e20 e21 e22 e23 e24 e25 e26 e27
                    refine jfX12_fail (I := I) (gw_sub W (by decide)) ?_ _ iμ2
                    intro r23 μ22 iμ22
                    exact hQ _ _ iμ22
  · intro e28
    refine jfX12_fail (I := I) (gw_sub W (by decide)) ?_ _ iμ2
    intro r25 μ24 iμ24
    exact hQ _ _ iμ24

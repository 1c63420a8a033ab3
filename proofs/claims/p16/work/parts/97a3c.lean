def vX12_ruled_71 (Q : Int32 → km_S → Prop) : Nat → Int32 → Int32 → Int32 → Int32 → Int32 → Int32 → km_S → Prop
  | 0, _, _, _, _, _, _, _ => True
  | n + 1, l1, l2, l3, l4, l5, l6, μ => ((l4 = (-1) → Q l5 μ) ∧ (¬ (l4 = (-1)) → vp_in l4 6 → (((km_a μ 54 l4.toNatClampNeg) ≤ l6 → Q l5 μ) ∧ (¬ ((km_a μ 54 l4.toNatClampNeg) ≤ l6) → vp_in ((12 * l4) + l6) 72 → (((km_a μ 58 ((12 * l4) + l6).toNatClampNeg) = l1 → ∀ v15, v15 = (13 * l4) + l6 → vp_in v15 78 → vp_in (v15 + 1) 78 → vX12_told ((900 * l4) + (km_a μ 55 v15.toNatClampNeg)) ((900 * l4) + (km_a μ 55 (v15 + 1).toNatClampNeg)) l2 l3 μ (fun r19 μ18 => ((l1 = 0 → ((r19 = 0 → vX12_ruled_180 (vX12_ruled_182 (vX12_ruled_71 Q n) Q) Q l1 l2 l3 l4 l6 l5 μ18) ∧ (¬ (r19 = 0) → vX12_ruled_180 (vX12_ruled_182 (vX12_ruled_71 Q n) Q) Q l1 l2 l3 l4 l6 1 μ18))) ∧ (¬ (l1 = 0) → vX12_ruled_180 (vX12_ruled_182 (vX12_ruled_71 Q n) Q) Q l1 l2 l3 l4 l6 (l5 + r19) μ18)))) ∧ (¬ ((km_a μ 58 ((12 * l4) + l6).toNatClampNeg) = l1) → vX12_ruled_182 (vX12_ruled_71 Q n) Q l1 l2 l3 l4 l5 l6 μ))))))
set_option maxRecDepth 100000 in
set_option maxHeartbeats 4000000 in
theorem jcX12_ruled_71 {Q Q' Q'' : Int32 → km_S → Prop} (hQ : ∀ y0 y1, Q y0 y1 → Q' y0 y1 → Q'' y0 y1) : ∀ (n : Nat) (l1 : Int32) (l2 : Int32) (l3 : Int32) (l4 : Int32) (l5 : Int32) (l6 : Int32) (μ : km_S), wX12_ruled_71 Q n l1 l2 l3 l4 l5 l6 μ → vX12_ruled_71 Q' n l1 l2 l3 l4 l5 l6 μ → wX12_ruled_71 Q'' n l1 l2 l3 l4 l5 l6 μ := by
  intro n
  induction n with
  | zero => intro l1 l2 l3 l4 l5 l6 μ h; exact h.elim
  | succ n ih =>
    intro l1 l2 l3 l4 l5 l6 μ h v
    unfold wX12_ruled_71 at h
    unfold vX12_ruled_71 at v
    unfold wX12_ruled_71
    refine ⟨?_, ?_⟩
    · have h := h.1
      have v := v.1
      intro e1
      have h := h e1
      have v := v e1
      exact hQ _ _ h v
    · have h := h.2
      have v := v.2
      intro e2
      have h := h e2
      have v := v e2
      refine ⟨h.1, ?_⟩
      have v := v h.1
      have h := h.2
      refine ⟨?_, ?_⟩
      · have h := h.1
        have v := v.1
        intro e4
        have h := h e4
        have v := v e4
        exact hQ _ _ h v
      · have h := h.2
        have v := v.2
        intro e5
        have h := h e5
        have v := v e5
        refine ⟨h.1, ?_⟩
        have v := v h.1
        have h := h.2
        refine ⟨?_, ?_⟩
        · have h := h.1
          have v := v.1
          intro e7
          have h := h e7
          have v := v e7
          intro v15 e8
          have h := h v15 e8
          have v := v v15 e8
          refine ⟨h.1, ?_⟩
          have v := v h.1
          have h := h.2
          refine ⟨h.1, ?_⟩
          have v := v h.1
          have h := h.2
          refine jcX12_told ?_ _ _ _ _ _ h v
          intro r19 μ18 h v
          refine ⟨?_, ?_⟩
          · have h := h.1
            have v := v.1
            intro e11
            have h := h e11
            have v := v e11
            refine ⟨?_, ?_⟩
            · have h := h.1
              have v := v.1
              intro e12
              have h := h e12
              have v := v e12
              exact jcX12_ruled_180 (k182 := wX12_ruled_182 (wX12_ruled_71 Q n) Q) (k182' := vX12_ruled_182 (vX12_ruled_71 Q' n) Q') (k182'' := wX12_ruled_182 (wX12_ruled_71 Q'' n) Q'') (fun _ _ _ _ _ _ _ h v => jcX12_ruled_182 (k71 := wX12_ruled_71 Q n) (k71' := vX12_ruled_71 Q' n) (k71'' := wX12_ruled_71 Q'' n) (fun _ _ _ _ _ _ _ h v => ih _ _ _ _ _ _ _ h v) hQ _ _ _ _ _ _ _ h v) hQ _ _ _ _ _ _ _ h v
            · have h := h.2
              have v := v.2
              intro e13
              have h := h e13
              have v := v e13
              exact jcX12_ruled_180 (k182 := wX12_ruled_182 (wX12_ruled_71 Q n) Q) (k182' := vX12_ruled_182 (vX12_ruled_71 Q' n) Q') (k182'' := wX12_ruled_182 (wX12_ruled_71 Q'' n) Q'') (fun _ _ _ _ _ _ _ h v => jcX12_ruled_182 (k71 := wX12_ruled_71 Q n) (k71' := vX12_ruled_71 Q' n) (k71'' := wX12_ruled_71 Q'' n) (fun _ _ _ _ _ _ _ h v => ih _ _ _ _ _ _ _ h v) hQ _ _ _ _ _ _ _ h v) hQ _ _ _ _ _ _ _ h v
          · have h := h.2
            have v := v.2
            intro e14
            have h := h e14
            have v := v e14
            exact jcX12_ruled_180 (k182 := wX12_ruled_182 (wX12_ruled_71 Q n) Q) (k182' := vX12_ruled_182 (vX12_ruled_71 Q' n) Q') (k182'' := wX12_ruled_182 (wX12_ruled_71 Q'' n) Q'') (fun _ _ _ _ _ _ _ h v => jcX12_ruled_182 (k71 := wX12_ruled_71 Q n) (k71' := vX12_ruled_71 Q' n) (k71'' := wX12_ruled_71 Q'' n) (fun _ _ _ _ _ _ _ h v => ih _ _ _ _ _ _ _ h v) hQ _ _ _ _ _ _ _ h v) hQ _ _ _ _ _ _ _ h v
        · have h := h.2
          have v := v.2
          intro e15
          have h := h e15
          have v := v e15
          exact jcX12_ruled_182 (k71 := wX12_ruled_71 Q n) (k71' := vX12_ruled_71 Q' n) (k71'' := wX12_ruled_71 Q'' n) (fun _ _ _ _ _ _ _ h v => ih _ _ _ _ _ _ _ h v) hQ _ _ _ _ _ _ _ h v
set_option maxRecDepth 100000 in
set_option maxHeartbeats 4000000 in
theorem jaX12_ruled_71 {Q Q' : Int32 → km_S → Prop} (hQ : ∀ y0 y1, Q y0 y1 → Q' y0 y1) : ∀ (n m : Nat) (l1 : Int32) (l2 : Int32) (l3 : Int32) (l4 : Int32) (l5 : Int32) (l6 : Int32) (μ : km_S), wX12_ruled_71 Q n l1 l2 l3 l4 l5 l6 μ → vX12_ruled_71 Q' m l1 l2 l3 l4 l5 l6 μ := by
  intro n
  induction n with
  | zero => intro m l1 l2 l3 l4 l5 l6 μ h; exact h.elim
  | succ n ih =>
    intro m l1 l2 l3 l4 l5 l6 μ h
    cases m with
    | zero => exact trivial
    | succ m =>
      unfold wX12_ruled_71 at h
      unfold vX12_ruled_71
      refine ⟨?_, ?_⟩
      · have h := h.1
        intro e1
        have h := h e1
        exact hQ _ _ h
      · have h := h.2
        intro e2
        have h := h e2
        intro e3
        have h := h.2
        refine ⟨?_, ?_⟩
        · have h := h.1
          intro e4
          have h := h e4
          exact hQ _ _ h
        · have h := h.2
          intro e5
          have h := h e5
          intro e6
          have h := h.2
          refine ⟨?_, ?_⟩
          · have h := h.1
            intro e7
            have h := h e7
            intro v15 e8
            have h := h v15 e8
            intro e9
            have h := h.2
            intro e10
            have h := h.2
            refine jaX12_told ?_ _ _ _ _ _ h
            intro r19 μ18 h
            refine ⟨?_, ?_⟩
            · have h := h.1
              intro e11
              have h := h e11
              refine ⟨?_, ?_⟩
              · have h := h.1
                intro e12
                have h := h e12
                exact jaX12_ruled_180 (k182 := wX12_ruled_182 (wX12_ruled_71 Q n) Q) (k182' := vX12_ruled_182 (vX12_ruled_71 Q' m) Q') (fun _ _ _ _ _ _ _ h => jaX12_ruled_182 (k71 := wX12_ruled_71 Q n) (k71' := vX12_ruled_71 Q' m) (fun _ _ _ _ _ _ _ h => ih m _ _ _ _ _ _ _ h) hQ _ _ _ _ _ _ _ h) hQ _ _ _ _ _ _ _ h
              · have h := h.2
                intro e13
                have h := h e13
                exact jaX12_ruled_180 (k182 := wX12_ruled_182 (wX12_ruled_71 Q n) Q) (k182' := vX12_ruled_182 (vX12_ruled_71 Q' m) Q') (fun _ _ _ _ _ _ _ h => jaX12_ruled_182 (k71 := wX12_ruled_71 Q n) (k71' := vX12_ruled_71 Q' m) (fun _ _ _ _ _ _ _ h => ih m _ _ _ _ _ _ _ h) hQ _ _ _ _ _ _ _ h) hQ _ _ _ _ _ _ _ h
            · have h := h.2
              intro e14
              have h := h e14
              exact jaX12_ruled_180 (k182 := wX12_ruled_182 (wX12_ruled_71 Q n) Q) (k182' := vX12_ruled_182 (vX12_ruled_71 Q' m) Q') (fun _ _ _ _ _ _ _ h => jaX12_ruled_182 (k71 := wX12_ruled_71 Q n) (k71' := vX12_ruled_71 Q' m) (fun _ _ _ _ _ _ _ h => ih m _ _ _ _ _ _ _ h) hQ _ _ _ _ _ _ _ h) hQ _ _ _ _ _ _ _ h
          · have h := h.2
            intro e15
            have h := h e15
            exact jaX12_ruled_182 (k71 := wX12_ruled_71 Q n) (k71' := vX12_ruled_71 Q' m) (fun _ _ _ _ _ _ _ h => ih m _ _ _ _ _ _ _ h) hQ _ _ _ _ _ _ _ h
set_option maxRecDepth 100000 in
set_option maxHeartbeats 4000000 in
theorem jfX12_ruled_71 {I : km_S → Prop} (W : gw_ I [57, 68]) {Q : Int32 → km_S → Prop} (hQ : ∀ y0 y1, I y1 → Q y0 y1) : ∀ (n : Nat) (l1 : Int32) (l2 : Int32) (l3 : Int32) (l4 : Int32) (l5 : Int32) (l6 : Int32) (μ : km_S), I μ → vX12_ruled_71 Q n l1 l2 l3 l4 l5 l6 μ := by
  intro n
  induction n with
  | zero => intro l1 l2 l3 l4 l5 l6 μ i; exact trivial
  | succ n ih =>
    intro l1 l2 l3 l4 l5 l6 μ i
    unfold vX12_ruled_71
    refine ⟨?_, ?_⟩
    · intro e1
      exact hQ _ _ i
    · intro e2
      intro e3
      refine ⟨?_, ?_⟩
      · intro e4
        exact hQ _ _ i
      · intro e5
        intro e6
        refine ⟨?_, ?_⟩
        · intro e7
          intro v15 e8
          intro e9
          intro e10
          refine jfX12_told (I := I) (gw_sub W (by decide)) ?_ _ _ _ _ _ i
          intro r19 μ18 iμ18
          refine ⟨?_, ?_⟩
          · intro e11
            refine ⟨?_, ?_⟩
            · intro e12
              exact jfX12_ruled_180 (I := I) (gw_sub W (by decide)) (k182 := vX12_ruled_182 (vX12_ruled_71 Q n) Q) (fun _ _ _ _ _ _ _ i => jfX12_ruled_182 (I := I) (gw_sub W (by decide)) (k71 := vX12_ruled_71 Q n) (fun _ _ _ _ _ _ _ i => ih _ _ _ _ _ _ _ i) hQ _ _ _ _ _ _ _ i) hQ _ _ _ _ _ _ _ iμ18
            · intro e13
              exact jfX12_ruled_180 (I := I) (gw_sub W (by decide)) (k182 := vX12_ruled_182 (vX12_ruled_71 Q n) Q) (fun _ _ _ _ _ _ _ i => jfX12_ruled_182 (I := I) (gw_sub W (by decide)) (k71 := vX12_ruled_71 Q n) (fun _ _ _ _ _ _ _ i => ih _ _ _ _ _ _ _ i) hQ _ _ _ _ _ _ _ i) hQ _ _ _ _ _ _ _ iμ18
          · intro e14
            exact jfX12_ruled_180 (I := I) (gw_sub W (by decide)) (k182 := vX12_ruled_182 (vX12_ruled_71 Q n) Q) (fun _ _ _ _ _ _ _ i => jfX12_ruled_182 (I := I) (gw_sub W (by decide)) (k71 := vX12_ruled_71 Q n) (fun _ _ _ _ _ _ _ i => ih _ _ _ _ _ _ _ i) hQ _ _ _ _ _ _ _ i) hQ _ _ _ _ _ _ _ iμ18
        · intro e15
          exact jfX12_ruled_182 (I := I) (gw_sub W (by decide)) (k71 := vX12_ruled_71 Q n) (fun _ _ _ _ _ _ _ i => ih _ _ _ _ _ _ _ i) hQ _ _ _ _ _ _ _ i
def vX12_ruled_65 (Q : Int32 → km_S → Prop) (l1 : Int32) (l2 : Int32) (l3 : Int32) (l4 : Int32) (μ : km_S) : Prop := ∀ j, vX12_ruled_71 Q j l1 l2 l3 l4 0 0 μ
set_option maxRecDepth 100000 in
set_option maxHeartbeats 4000000 in
theorem jcX12_ruled_65 {Q Q' Q'' : Int32 → km_S → Prop} (hQ : ∀ y0 y1, Q y0 y1 → Q' y0 y1 → Q'' y0 y1) : ∀ (l1 : Int32) (l2 : Int32) (l3 : Int32) (l4 : Int32) (μ : km_S), wX12_ruled_65 Q l1 l2 l3 l4 μ → vX12_ruled_65 Q' l1 l2 l3 l4 μ → wX12_ruled_65 Q'' l1 l2 l3 l4 μ := by
  intro l1 l2 l3 l4 μ h v
  unfold wX12_ruled_65 at h
  unfold vX12_ruled_65 at v
  unfold wX12_ruled_65
  obtain ⟨j, h⟩ := h
  refine ⟨j, ?_⟩
  have v := v j
  exact jcX12_ruled_71 hQ _ _ _ _ _ _ _ _ h v
set_option maxRecDepth 100000 in
set_option maxHeartbeats 4000000 in
theorem jaX12_ruled_65 {Q Q' : Int32 → km_S → Prop} (hQ : ∀ y0 y1, Q y0 y1 → Q' y0 y1) : ∀ (l1 : Int32) (l2 : Int32) (l3 : Int32) (l4 : Int32) (μ : km_S), wX12_ruled_65 Q l1 l2 l3 l4 μ → vX12_ruled_65 Q' l1 l2 l3 l4 μ := by
  intro l1 l2 l3 l4 μ h
  unfold wX12_ruled_65 at h
  unfold vX12_ruled_65
  obtain ⟨j, h⟩ := h
  intro j9
  exact jaX12_ruled_71 hQ _ j9 _ _ _ _ _ _ _ h
set_option maxRecDepth 100000 in
set_option maxHeartbeats 4000000 in
theorem jfX12_ruled_65 {I : km_S → Prop} (W : gw_ I [57, 68]) {Q : Int32 → km_S → Prop} (hQ : ∀ y0 y1, I y1 → Q y0 y1) : ∀ (l1 : Int32) (l2 : Int32) (l3 : Int32) (l4 : Int32) (μ : km_S), I μ → vX12_ruled_65 Q l1 l2 l3 l4 μ := by
  intro l1 l2 l3 l4 μ i
  unfold vX12_ruled_65
  intro j
  exact jfX12_ruled_71 (I := I) (gw_sub W (by decide)) hQ _ _ _ _ _ _ _ _ i
def vX12_ruled (l1 : Int32) (l2 : Int32) (l3 : Int32) (μ : km_S) (Q : Int32 → km_S → Prop) : Prop := ∀ j, vX12_ruled_6 (vX12_ruled_65 Q) Q j l1 l2 l3 (-1) 0 μ
set_option maxRecDepth 100000 in
set_option maxHeartbeats 4000000 in
theorem jcX12_ruled {Q Q' Q'' : Int32 → km_S → Prop} (hQ : ∀ y0 y1, Q y0 y1 → Q' y0 y1 → Q'' y0 y1) : ∀ (l1 : Int32) (l2 : Int32) (l3 : Int32) (μ : km_S), wX12_ruled l1 l2 l3 μ Q → vX12_ruled l1 l2 l3 μ Q' → wX12_ruled l1 l2 l3 μ Q'' := by
  intro l1 l2 l3 μ h v
  unfold wX12_ruled at h
  unfold vX12_ruled at v
  unfold wX12_ruled
  obtain ⟨j, h⟩ := h
  refine ⟨j, ?_⟩
  have v := v j
  exact jcX12_ruled_6 (k65 := wX12_ruled_65 Q) (k65' := vX12_ruled_65 Q') (k65'' := wX12_ruled_65 Q'') (fun _ _ _ _ _ h v => jcX12_ruled_65 hQ _ _ _ _ _ h v) hQ _ _ _ _ _ _ _ h v
set_option maxRecDepth 100000 in
set_option maxHeartbeats 4000000 in
theorem jaX12_ruled {Q Q' : Int32 → km_S → Prop} (hQ : ∀ y0 y1, Q y0 y1 → Q' y0 y1) : ∀ (l1 : Int32) (l2 : Int32) (l3 : Int32) (μ : km_S), wX12_ruled l1 l2 l3 μ Q → vX12_ruled l1 l2 l3 μ Q' := by
  intro l1 l2 l3 μ h
  unfold wX12_ruled at h
  unfold vX12_ruled
  obtain ⟨j, h⟩ := h
  intro j9
  exact jaX12_ruled_6 (k65 := wX12_ruled_65 Q) (k65' := vX12_ruled_65 Q') (fun _ _ _ _ _ h => jaX12_ruled_65 hQ _ _ _ _ _ h) hQ _ j9 _ _ _ _ _ _ h
set_option maxRecDepth 100000 in
set_option maxHeartbeats 4000000 in
theorem jfX12_ruled {I : km_S → Prop} (W : gw_ I [57, 68]) {Q : Int32 → km_S → Prop} (hQ : ∀ y0 y1, I y1 → Q y0 y1) : ∀ (l1 : Int32) (l2 : Int32) (l3 : Int32) (μ : km_S), I μ → vX12_ruled l1 l2 l3 μ Q := by
  intro l1 l2 l3 μ i
  unfold vX12_ruled
  intro j
  exact jfX12_ruled_6 (I := I) (gw_sub W (by decide)) (k65 := vX12_ruled_65 Q) (fun _ _ _ _ _ i => jfX12_ruled_65 (I := I) (gw_sub W (by decide)) hQ _ _ _ _ _ i) hQ _ _ _ _ _ _ _ i
def vX12_let_22 (Q : Int32 → km_S → Prop) (μ : km_S) : Prop := vX12_fail μ (fun r2 μ1 => Q r2 μ1)
set_option maxRecDepth 100000 in
set_option maxHeartbeats 4000000 in
theorem jcX12_let_22 {Q Q' Q'' : Int32 → km_S → Prop} (hQ : ∀ y0 y1, Q y0 y1 → Q' y0 y1 → Q'' y0 y1) : ∀ (μ : km_S), wX12_let_22 Q μ → vX12_let_22 Q' μ → wX12_let_22 Q'' μ := by
  intro μ h v
  unfold wX12_let_22 at h
  unfold vX12_let_22 at v
  unfold wX12_let_22
  refine jcX12_fail ?_ _ h v
  intro r2 μ1 h v
  exact hQ _ _ h v
set_option maxRecDepth 100000 in
set_option maxHeartbeats 4000000 in
theorem jaX12_let_22 {Q Q' : Int32 → km_S → Prop} (hQ : ∀ y0 y1, Q y0 y1 → Q' y0 y1) : ∀ (μ : km_S), wX12_let_22 Q μ → vX12_let_22 Q' μ := by
  intro μ h
  unfold wX12_let_22 at h
  unfold vX12_let_22
  refine jaX12_fail ?_ _ h
  intro r2 μ1 h
  exact hQ _ _ h
set_option maxRecDepth 100000 in
set_option maxHeartbeats 4000000 in
theorem jfX12_let_22 {I : km_S → Prop} (W : gw_ I [1]) {Q : Int32 → km_S → Prop} (hQ : ∀ y0 y1, I y1 → Q y0 y1) : ∀ (μ : km_S), I μ → vX12_let_22 Q μ := by
  intro μ i
  unfold vX12_let_22
  refine jfX12_fail (I := I) (gw_sub W (by decide)) ?_ _ i
  intro r2 μ1 iμ1
  exact hQ _ _ iμ1
def vX12_let (l1 : Int32) (l2 : Int32) (l3 : Int32) (μ : km_S) (Q : Int32 → km_S → Prop) : Prop := ∀ μ3, μ3 = km_si μ 1 0 → vX12_isLog l1 μ3 (fun r5 μ4 => ((r5 = 0 → vX12_let_22 Q μ4) ∧ (¬ (r5 = 0) → vX12_isCell l2 l3 μ4 (fun r8 μ7 => ((¬ r8 = 0 → vp_in l1 400 → (((km_a μ7 38 l1.toNatClampNeg) = 0 → vX12_ruled 0 l1 l2 μ7 (fun r13 μ12 => ((r13 = 0 → vX12_isOpen l2 l3 μ12 (fun r16 μ15 => ((¬ r16 = 0 → vp_in l1 400 → ∀ μ19, μ19 = km_sa μ15 38 l1.toNatClampNeg 1 → vX12_lay l1 l2 l3 μ19 (fun μ20 => Q 0 μ20)) ∧ (r16 = 0 → Q 3 μ15)))) ∧ (¬ (r13 = 0) → Q 2 μ12)))) ∧ (¬ ((km_a μ7 38 l1.toNatClampNeg) = 0) → Q 1 μ7))) ∧ (r8 = 0 → vX12_let_22 Q μ7))))))
set_option maxRecDepth 100000 in
set_option maxHeartbeats 4000000 in
theorem jcX12_let {Q Q' Q'' : Int32 → km_S → Prop} (hQ : ∀ y0 y1, Q y0 y1 → Q' y0 y1 → Q'' y0 y1) : ∀ (l1 : Int32) (l2 : Int32) (l3 : Int32) (μ : km_S), wX12_let l1 l2 l3 μ Q → vX12_let l1 l2 l3 μ Q' → wX12_let l1 l2 l3 μ Q'' := by
  intro l1 l2 l3 μ h v
  unfold wX12_let at h
  unfold vX12_let at v
  unfold wX12_let
  intro μ3 e1
  have h := h μ3 e1
  have v := v μ3 e1
  refine jcX12_isLog ?_ _ _ h v
  intro r5 μ4 h v
  refine ⟨?_, ?_⟩
  · have h := h.1
    have v := v.1
    intro e2
    have h := h e2
    have v := v e2
    exact jcX12_let_22 hQ _ h v
  · have h := h.2
    have v := v.2
    intro e3
    have h := h e3
    have v := v e3
    refine jcX12_isCell ?_ _ _ _ h v
    intro r8 μ7 h v
    refine ⟨?_, ?_⟩
    · have h := h.1
      have v := v.1
      intro e4
      have h := h e4
      have v := v e4
      refine ⟨h.1, ?_⟩
      have v := v h.1
      have h := h.2
      refine ⟨?_, ?_⟩
      · have h := h.1
        have v := v.1
        intro e6
        have h := h e6
        have v := v e6
        refine jcX12_ruled ?_ _ _ _ _ h v
        intro r13 μ12 h v
        refine ⟨?_, ?_⟩
        · have h := h.1
          have v := v.1
          intro e7
          have h := h e7
          have v := v e7
          refine jcX12_isOpen ?_ _ _ _ h v
          intro r16 μ15 h v
          refine ⟨?_, ?_⟩
          · have h := h.1
            have v := v.1
            intro e8
            have h := h e8
            have v := v e8
            refine ⟨h.1, ?_⟩
            have v := v h.1
            have h := h.2
            intro μ19 e10
            have h := h μ19 e10
            have v := v μ19 e10
            refine jcX12_lay ?_ _ _ _ _ h v
            intro μ20 h v
            exact hQ _ _ h v
          · have h := h.2
            have v := v.2
            intro e11
            have h := h e11
            have v := v e11
            exact hQ _ _ h v
        · have h := h.2
          have v := v.2
          intro e12
          have h := h e12
          have v := v e12
          exact hQ _ _ h v
      · have h := h.2
        have v := v.2
        intro e13
        have h := h e13
        have v := v e13
        exact hQ _ _ h v
    · have h := h.2
      have v := v.2
      intro e14
      have h := h e14
      have v := v e14
      exact jcX12_let_22 hQ _ h v
set_option maxRecDepth 100000 in
set_option maxHeartbeats 4000000 in
theorem jaX12_let {Q Q' : Int32 → km_S → Prop} (hQ : ∀ y0 y1, Q y0 y1 → Q' y0 y1) : ∀ (l1 : Int32) (l2 : Int32) (l3 : Int32) (μ : km_S), wX12_let l1 l2 l3 μ Q → vX12_let l1 l2 l3 μ Q' := by
  intro l1 l2 l3 μ h
  unfold wX12_let at h
  unfold vX12_let
  intro μ3 e1
  have h := h μ3 e1
  refine jaX12_isLog ?_ _ _ h
  intro r5 μ4 h
  refine ⟨?_, ?_⟩
  · have h := h.1
    intro e2
    have h := h e2
    exact jaX12_let_22 hQ _ h
  · have h := h.2
    intro e3
    have h := h e3
    refine jaX12_isCell ?_ _ _ _ h
    intro r8 μ7 h
    refine ⟨?_, ?_⟩
    · have h := h.1
      intro e4
      have h := h e4
      intro e5
      have h := h.2
      refine ⟨?_, ?_⟩
      · have h := h.1
        intro e6
        have h := h e6
        refine jaX12_ruled ?_ _ _ _ _ h
        intro r13 μ12 h
        refine ⟨?_, ?_⟩
        · have h := h.1
          intro e7
          have h := h e7
          refine jaX12_isOpen ?_ _ _ _ h
          intro r16 μ15 h
          refine ⟨?_, ?_⟩
          · have h := h.1
            intro e8
            have h := h e8
            intro e9
            have h := h.2
            intro μ19 e10
            have h := h μ19 e10
            refine jaX12_lay ?_ _ _ _ _ h
            intro μ20 h
            exact hQ _ _ h
          · have h := h.2
            intro e11
            have h := h e11
            exact hQ _ _ h
        · have h := h.2
          intro e12
          have h := h e12
          exact hQ _ _ h
      · have h := h.2
        intro e13
        have h := h e13
        exact hQ _ _ h
    · have h := h.2
      intro e14
      have h := h e14
      exact jaX12_let_22 hQ _ h
set_option maxRecDepth 100000 in
set_option maxHeartbeats 4000000 in
theorem jfX12_let {I : km_S → Prop} (W : gw_ I [1, 31, 32, 38, 39, 40, 57, 68]) {Q : Int32 → km_S → Prop} (hQ : ∀ y0 y1, I y1 → Q y0 y1) : ∀ (l1 : Int32) (l2 : Int32) (l3 : Int32) (μ : km_S), I μ → vX12_let l1 l2 l3 μ Q := by
  intro l1 l2 l3 μ i
  unfold vX12_let
  intro μ3 e1
  have iμ3 : I μ3 := by rw [e1]; exact ((W _ i) 1 (by decide)).1 _
  refine jfX12_isLog (I := I) (gw_sub W (by decide)) ?_ _ _ iμ3
  intro r5 μ4 iμ4
  refine ⟨?_, ?_⟩
  · intro e2
    exact jfX12_let_22 (I := I) (gw_sub W (by decide)) hQ _ iμ4
  · intro e3
    refine jfX12_isCell (I := I) (gw_sub W (by decide)) ?_ _ _ _ iμ4
    intro r8 μ7 iμ7
    refine ⟨?_, ?_⟩
    · intro e4
      intro e5
      refine ⟨?_, ?_⟩
      · intro e6
        refine jfX12_ruled (I := I) (gw_sub W (by decide)) ?_ _ _ _ _ iμ7
        intro r13 μ12 iμ12
        refine ⟨?_, ?_⟩
        · intro e7
          refine jfX12_isOpen (I := I) (gw_sub W (by decide)) ?_ _ _ _ iμ12
          intro r16 μ15 iμ15
          refine ⟨?_, ?_⟩
          · intro e8
            intro e9
            intro μ19 e10
            have iμ19 : I μ19 := by rw [e10]; exact ((W _ iμ15) 38 (by decide)).2.1 _ _
            refine jfX12_lay (I := I) (gw_sub W (by decide)) ?_ _ _ _ _ iμ19
            intro μ20 iμ20
            exact hQ _ _ iμ20
          · intro e11
            exact hQ _ _ iμ15
        · intro e12
          exact hQ _ _ iμ12
      · intro e13
        exact hQ _ _ iμ7
    · intro e14
      exact jfX12_let_22 (I := I) (gw_sub W (by decide)) hQ _ iμ7

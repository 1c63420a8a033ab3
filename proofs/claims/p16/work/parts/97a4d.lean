def vX12_jams_81 (k211 : km_S → Prop) (Q : km_S → Prop) : Nat → Int32 → km_S → Prop
  | 0, _, _ => True
  | n + 1, l1, μ => (((km_i μ 7) ≤ l1 → k211 μ) ∧ (¬ ((km_i μ 7) ≤ l1) → vp_in l1 6 → ∀ v67, v67 = km_a μ 44 l1.toNatClampNeg → ∀ j, vX12_jams_101 (vX12_jams_135 (vX12_jams_81 k211 Q n) Q) Q j l1 v67 (-1) 0 μ))
set_option maxRecDepth 100000 in
set_option maxHeartbeats 4000000 in
theorem jcX12_jams_81 {k211 k211' k211'' : km_S → Prop} (hk211 : ∀ y0, k211 y0 → k211' y0 → k211'' y0) {Q Q' Q'' : km_S → Prop} (hQ : ∀ y0, Q y0 → Q' y0 → Q'' y0) : ∀ (n : Nat) (l1 : Int32) (μ : km_S), wX12_jams_81 k211 Q n l1 μ → vX12_jams_81 k211' Q' n l1 μ → wX12_jams_81 k211'' Q'' n l1 μ := by
  intro n
  induction n with
  | zero => intro l1 μ h; exact h.elim
  | succ n ih =>
    intro l1 μ h v
    unfold wX12_jams_81 at h
    unfold vX12_jams_81 at v
    unfold wX12_jams_81
    refine ⟨?_, ?_⟩
    · have h := h.1
      have v := v.1
      intro e1
      have h := h e1
      have v := v e1
      exact hk211 _ h v
    · have h := h.2
      have v := v.2
      intro e2
      have h := h e2
      have v := v e2
      refine ⟨h.1, ?_⟩
      have v := v h.1
      have h := h.2
      intro v67 e4
      have h := h v67 e4
      have v := v v67 e4
      obtain ⟨j, h⟩ := h
      refine ⟨j, ?_⟩
      have v := v j
      exact jcX12_jams_101 (k135 := wX12_jams_135 (wX12_jams_81 k211 Q n) Q) (k135' := vX12_jams_135 (vX12_jams_81 k211' Q' n) Q') (k135'' := wX12_jams_135 (wX12_jams_81 k211'' Q'' n) Q'') (fun _ _ _ _ h v => jcX12_jams_135 (k81 := wX12_jams_81 k211 Q n) (k81' := vX12_jams_81 k211' Q' n) (k81'' := wX12_jams_81 k211'' Q'' n) (fun _ _ h v => ih _ _ h v) hQ _ _ _ _ h v) hQ _ _ _ _ _ _ h v
set_option maxRecDepth 100000 in
set_option maxHeartbeats 4000000 in
theorem jaX12_jams_81 {k211 k211' : km_S → Prop} (hk211 : ∀ y0, k211 y0 → k211' y0) {Q Q' : km_S → Prop} (hQ : ∀ y0, Q y0 → Q' y0) : ∀ (n m : Nat) (l1 : Int32) (μ : km_S), wX12_jams_81 k211 Q n l1 μ → vX12_jams_81 k211' Q' m l1 μ := by
  intro n
  induction n with
  | zero => intro m l1 μ h; exact h.elim
  | succ n ih =>
    intro m l1 μ h
    cases m with
    | zero => exact trivial
    | succ m =>
      unfold wX12_jams_81 at h
      unfold vX12_jams_81
      refine ⟨?_, ?_⟩
      · have h := h.1
        intro e1
        have h := h e1
        exact hk211 _ h
      · have h := h.2
        intro e2
        have h := h e2
        intro e3
        have h := h.2
        intro v67 e4
        have h := h v67 e4
        obtain ⟨j, h⟩ := h
        intro j9
        exact jaX12_jams_101 (k135 := wX12_jams_135 (wX12_jams_81 k211 Q n) Q) (k135' := vX12_jams_135 (vX12_jams_81 k211' Q' m) Q') (fun _ _ _ _ h => jaX12_jams_135 (k81 := wX12_jams_81 k211 Q n) (k81' := vX12_jams_81 k211' Q' m) (fun _ _ h => ih m _ _ h) hQ _ _ _ _ h) hQ _ j9 _ _ _ _ _ h
set_option maxRecDepth 100000 in
set_option maxHeartbeats 4000000 in
theorem jfX12_jams_81 {I : km_S → Prop} (W : gw_ I [33, 34, 46]) {k211 : km_S → Prop} (hk211 : ∀ y0, I y0 → k211 y0) {Q : km_S → Prop} (hQ : ∀ y0, I y0 → Q y0) : ∀ (n : Nat) (l1 : Int32) (μ : km_S), I μ → vX12_jams_81 k211 Q n l1 μ := by
  intro n
  induction n with
  | zero => intro l1 μ i; exact trivial
  | succ n ih =>
    intro l1 μ i
    unfold vX12_jams_81
    refine ⟨?_, ?_⟩
    · intro e1
      exact hk211 _ i
    · intro e2
      intro e3
      intro v67 e4
      intro j
      exact jfX12_jams_101 (I := I) (gw_sub W (by decide)) (k135 := vX12_jams_135 (vX12_jams_81 k211 Q n) Q) (fun _ _ _ _ i => jfX12_jams_135 (I := I) (gw_sub W (by decide)) (k81 := vX12_jams_81 k211 Q n) (fun _ _ i => ih _ _ i) hQ _ _ _ _ i) hQ _ _ _ _ _ _ i
def vX12_jams_79 (Q : km_S → Prop) (μ : km_S) : Prop := ∀ j, vX12_jams_81 (vX12_jams_211 Q) Q j 0 μ
set_option maxRecDepth 100000 in
set_option maxHeartbeats 4000000 in
theorem jcX12_jams_79 {Q Q' Q'' : km_S → Prop} (hQ : ∀ y0, Q y0 → Q' y0 → Q'' y0) : ∀ (μ : km_S), wX12_jams_79 Q μ → vX12_jams_79 Q' μ → wX12_jams_79 Q'' μ := by
  intro μ h v
  unfold wX12_jams_79 at h
  unfold vX12_jams_79 at v
  unfold wX12_jams_79
  obtain ⟨j, h⟩ := h
  refine ⟨j, ?_⟩
  have v := v j
  exact jcX12_jams_81 (k211 := wX12_jams_211 Q) (k211' := vX12_jams_211 Q') (k211'' := wX12_jams_211 Q'') (fun _ h v => jcX12_jams_211 hQ _ h v) hQ _ _ _ h v
set_option maxRecDepth 100000 in
set_option maxHeartbeats 4000000 in
theorem jaX12_jams_79 {Q Q' : km_S → Prop} (hQ : ∀ y0, Q y0 → Q' y0) : ∀ (μ : km_S), wX12_jams_79 Q μ → vX12_jams_79 Q' μ := by
  intro μ h
  unfold wX12_jams_79 at h
  unfold vX12_jams_79
  obtain ⟨j, h⟩ := h
  intro j9
  exact jaX12_jams_81 (k211 := wX12_jams_211 Q) (k211' := vX12_jams_211 Q') (fun _ h => jaX12_jams_211 hQ _ h) hQ _ j9 _ _ h
set_option maxRecDepth 100000 in
set_option maxHeartbeats 4000000 in
theorem jfX12_jams_79 {I : km_S → Prop} (W : gw_ I [33, 34, 46]) {Q : km_S → Prop} (hQ : ∀ y0, I y0 → Q y0) : ∀ (μ : km_S), I μ → vX12_jams_79 Q μ := by
  intro μ i
  unfold vX12_jams_79
  intro j
  exact jfX12_jams_81 (I := I) (gw_sub W (by decide)) (k211 := vX12_jams_211 Q) (fun _ i => jfX12_jams_211 (I := I) (gw_sub W (by decide)) hQ _ i) hQ _ _ _ i
def vX12_jams (μ : km_S) (Q : km_S → Prop) : Prop := ∀ j, vX12_jams_2 (vX12_jams_79 Q) Q j 0 μ
set_option maxRecDepth 100000 in
set_option maxHeartbeats 4000000 in
theorem jcX12_jams {Q Q' Q'' : km_S → Prop} (hQ : ∀ y0, Q y0 → Q' y0 → Q'' y0) : ∀ (μ : km_S), wX12_jams μ Q → vX12_jams μ Q' → wX12_jams μ Q'' := by
  intro μ h v
  unfold wX12_jams at h
  unfold vX12_jams at v
  unfold wX12_jams
  obtain ⟨j, h⟩ := h
  refine ⟨j, ?_⟩
  have v := v j
  exact jcX12_jams_2 (k79 := wX12_jams_79 Q) (k79' := vX12_jams_79 Q') (k79'' := wX12_jams_79 Q'') (fun _ h v => jcX12_jams_79 hQ _ h v) hQ _ _ _ h v
set_option maxRecDepth 100000 in
set_option maxHeartbeats 4000000 in
theorem jaX12_jams {Q Q' : km_S → Prop} (hQ : ∀ y0, Q y0 → Q' y0) : ∀ (μ : km_S), wX12_jams μ Q → vX12_jams μ Q' := by
  intro μ h
  unfold wX12_jams at h
  unfold vX12_jams
  obtain ⟨j, h⟩ := h
  intro j9
  exact jaX12_jams_2 (k79 := wX12_jams_79 Q) (k79' := vX12_jams_79 Q') (fun _ h => jaX12_jams_79 hQ _ h) hQ _ j9 _ _ h
set_option maxRecDepth 100000 in
set_option maxHeartbeats 4000000 in
theorem jfX12_jams {I : km_S → Prop} (W : gw_ I [33, 34, 46]) {Q : km_S → Prop} (hQ : ∀ y0, I y0 → Q y0) : ∀ (μ : km_S), I μ → vX12_jams μ Q := by
  intro μ i
  unfold vX12_jams
  intro j
  exact jfX12_jams_2 (I := I) (gw_sub W (by decide)) (k79 := vX12_jams_79 Q) (fun _ i => jfX12_jams_79 (I := I) (gw_sub W (by decide)) hQ _ i) hQ _ _ _ i
def vX12_older_66 (k2 : Int32 → km_S → Prop) (Q : km_S → Prop) (l1 : Int32) (μ : km_S) : Prop := ∀ v1 : Int32, v1 = l1 + 1 → k2 v1 μ
set_option maxRecDepth 100000 in
set_option maxHeartbeats 4000000 in
theorem jcX12_older_66 {k2 k2' k2'' : Int32 → km_S → Prop} (hk2 : ∀ y0 y1, k2 y0 y1 → k2' y0 y1 → k2'' y0 y1) {Q Q' Q'' : km_S → Prop} (hQ : ∀ y0, Q y0 → Q' y0 → Q'' y0) : ∀ (l1 : Int32) (μ : km_S), wX12_older_66 k2 Q l1 μ → vX12_older_66 k2' Q' l1 μ → wX12_older_66 k2'' Q'' l1 μ := by
  intro l1 μ h v
  unfold wX12_older_66 at h
  unfold vX12_older_66 at v
  unfold wX12_older_66
  intro v1 e1
  have h := h v1 e1
  have v := v v1 e1
  exact hk2 _ _ h v
set_option maxRecDepth 100000 in
set_option maxHeartbeats 4000000 in
theorem jaX12_older_66 {k2 k2' : Int32 → km_S → Prop} (hk2 : ∀ y0 y1, k2 y0 y1 → k2' y0 y1) {Q Q' : km_S → Prop} (hQ : ∀ y0, Q y0 → Q' y0) : ∀ (l1 : Int32) (μ : km_S), wX12_older_66 k2 Q l1 μ → vX12_older_66 k2' Q' l1 μ := by
  intro l1 μ h
  unfold wX12_older_66 at h
  unfold vX12_older_66
  intro v1 e1
  have h := h v1 e1
  exact hk2 _ _ h
set_option maxRecDepth 100000 in
set_option maxHeartbeats 4000000 in
theorem jfX12_older_66 {I : km_S → Prop} (W : gw_ I []) {k2 : Int32 → km_S → Prop} (hk2 : ∀ y0 y1, I y1 → k2 y0 y1) {Q : km_S → Prop} (hQ : ∀ y0, I y0 → Q y0) : ∀ (l1 : Int32) (μ : km_S), I μ → vX12_older_66 k2 Q l1 μ := by
  intro l1 μ i
  unfold vX12_older_66
  intro v1 e1
  exact hk2 _ _ i
def vX12_older_2 (Q : km_S → Prop) : Nat → Int32 → km_S → Prop
  | 0, _, _ => True
  | n + 1, l1, μ => (((km_i μ 4) ≤ l1 → Q μ) ∧ (¬ ((km_i μ 4) ≤ l1) → vp_in l1 400 → (((km_a μ 38 l1.toNatClampNeg) = 1 → vp_in l1 400 → vp_in l1 400 → ∀ μ7, μ7 = km_sa μ 41 l1.toNatClampNeg ((km_a μ 41 l1.toNatClampNeg) + 1) → vp_in l1 400 → vp_in l1 400 → (((24 * (km_a μ7 36 l1.toNatClampNeg)) ≤ (km_a μ7 41 l1.toNatClampNeg) → vX12_lift l1 μ7 (fun μ11 => vp_in l1 400 → ∀ μ13, μ13 = km_sa μ11 38 l1.toNatClampNeg 5 → vX12_older_66 (vX12_older_2 Q n) Q l1 μ13)) ∧ (¬ ((24 * (km_a μ7 36 l1.toNatClampNeg)) ≤ (km_a μ7 41 l1.toNatClampNeg)) → vX12_older_66 (vX12_older_2 Q n) Q l1 μ7))) ∧ (¬ ((km_a μ 38 l1.toNatClampNeg) = 1) → vX12_older_66 (vX12_older_2 Q n) Q l1 μ))))
set_option maxRecDepth 100000 in
set_option maxHeartbeats 4000000 in
theorem jcX12_older_2 {Q Q' Q'' : km_S → Prop} (hQ : ∀ y0, Q y0 → Q' y0 → Q'' y0) : ∀ (n : Nat) (l1 : Int32) (μ : km_S), wX12_older_2 Q n l1 μ → vX12_older_2 Q' n l1 μ → wX12_older_2 Q'' n l1 μ := by
  intro n
  induction n with
  | zero => intro l1 μ h; exact h.elim
  | succ n ih =>
    intro l1 μ h v
    unfold wX12_older_2 at h
    unfold vX12_older_2 at v
    unfold wX12_older_2
    refine ⟨?_, ?_⟩
    · have h := h.1
      have v := v.1
      intro e1
      have h := h e1
      have v := v e1
      exact hQ _ h v
    · have h := h.2
      have v := v.2
      intro e2
      have h := h e2
      have v := v e2
      refine ⟨h.1, ?_⟩
      have v := v h.1
      have h := h.2
      refine ⟨?_, ?_⟩
      · have h := h.1
        have v := v.1
        intro e4
        have h := h e4
        have v := v e4
        refine ⟨h.1, ?_⟩
        have v := v h.1
        have h := h.2
        refine ⟨h.1, ?_⟩
        have v := v h.1
        have h := h.2
        intro μ7 e7
        have h := h μ7 e7
        have v := v μ7 e7
        refine ⟨h.1, ?_⟩
        have v := v h.1
        have h := h.2
        refine ⟨h.1, ?_⟩
        have v := v h.1
        have h := h.2
        refine ⟨?_, ?_⟩
        · have h := h.1
          have v := v.1
          intro e10
          have h := h e10
          have v := v e10
          refine jcX12_lift ?_ _ _ h v
          intro μ11 h v
          refine ⟨h.1, ?_⟩
          have v := v h.1
          have h := h.2
          intro μ13 e12
          have h := h μ13 e12
          have v := v μ13 e12
          exact jcX12_older_66 (k2 := wX12_older_2 Q n) (k2' := vX12_older_2 Q' n) (k2'' := wX12_older_2 Q'' n) (fun _ _ h v => ih _ _ h v) hQ _ _ h v
        · have h := h.2
          have v := v.2
          intro e13
          have h := h e13
          have v := v e13
          exact jcX12_older_66 (k2 := wX12_older_2 Q n) (k2' := vX12_older_2 Q' n) (k2'' := wX12_older_2 Q'' n) (fun _ _ h v => ih _ _ h v) hQ _ _ h v
      · have h := h.2
        have v := v.2
        intro e14
        have h := h e14
        have v := v e14
        exact jcX12_older_66 (k2 := wX12_older_2 Q n) (k2' := vX12_older_2 Q' n) (k2'' := wX12_older_2 Q'' n) (fun _ _ h v => ih _ _ h v) hQ _ _ h v
set_option maxRecDepth 100000 in
set_option maxHeartbeats 4000000 in
theorem jaX12_older_2 {Q Q' : km_S → Prop} (hQ : ∀ y0, Q y0 → Q' y0) : ∀ (n m : Nat) (l1 : Int32) (μ : km_S), wX12_older_2 Q n l1 μ → vX12_older_2 Q' m l1 μ := by
  intro n
  induction n with
  | zero => intro m l1 μ h; exact h.elim
  | succ n ih =>
    intro m l1 μ h
    cases m with
    | zero => exact trivial
    | succ m =>
      unfold wX12_older_2 at h
      unfold vX12_older_2
      refine ⟨?_, ?_⟩
      · have h := h.1
        intro e1
        have h := h e1
        exact hQ _ h
      · have h := h.2
        intro e2
        have h := h e2
        intro e3
        have h := h.2
        refine ⟨?_, ?_⟩
        · have h := h.1
          intro e4
          have h := h e4
          intro e5
          have h := h.2
          intro e6
          have h := h.2
          intro μ7 e7
          have h := h μ7 e7
          intro e8
          have h := h.2
          intro e9
          have h := h.2
          refine ⟨?_, ?_⟩
          · have h := h.1
            intro e10
            have h := h e10
            refine jaX12_lift ?_ _ _ h
            intro μ11 h
            intro e11
            have h := h.2
            intro μ13 e12
            have h := h μ13 e12
            exact jaX12_older_66 (k2 := wX12_older_2 Q n) (k2' := vX12_older_2 Q' m) (fun _ _ h => ih m _ _ h) hQ _ _ h
          · have h := h.2
            intro e13
            have h := h e13
            exact jaX12_older_66 (k2 := wX12_older_2 Q n) (k2' := vX12_older_2 Q' m) (fun _ _ h => ih m _ _ h) hQ _ _ h
        · have h := h.2
          intro e14
          have h := h e14
          exact jaX12_older_66 (k2 := wX12_older_2 Q n) (k2' := vX12_older_2 Q' m) (fun _ _ h => ih m _ _ h) hQ _ _ h
set_option maxRecDepth 100000 in
set_option maxHeartbeats 4000000 in
theorem jfX12_older_2 {I : km_S → Prop} (W : gw_ I [31, 32, 38, 41]) {Q : km_S → Prop} (hQ : ∀ y0, I y0 → Q y0) : ∀ (n : Nat) (l1 : Int32) (μ : km_S), I μ → vX12_older_2 Q n l1 μ := by
  intro n
  induction n with
  | zero => intro l1 μ i; exact trivial
  | succ n ih =>
    intro l1 μ i
    unfold vX12_older_2
    refine ⟨?_, ?_⟩
    · intro e1
      exact hQ _ i
    · intro e2
      intro e3
      refine ⟨?_, ?_⟩
      · intro e4
        intro e5
        intro e6
        intro μ7 e7
        have iμ7 : I μ7 := by rw [e7]; exact ((W _ i) 41 (by decide)).2.1 _ _
        intro e8
        intro e9
        refine ⟨?_, ?_⟩
        · intro e10
          refine jfX12_lift (I := I) (gw_sub W (by decide)) ?_ _ _ iμ7
          intro μ11 iμ11
          intro e11
          intro μ13 e12
          have iμ13 : I μ13 := by rw [e12]; exact ((W _ iμ11) 38 (by decide)).2.1 _ _
          exact jfX12_older_66 (I := I) (gw_sub W (by decide)) (k2 := vX12_older_2 Q n) (fun _ _ i => ih _ _ i) hQ _ _ iμ13
        · intro e13
          exact jfX12_older_66 (I := I) (gw_sub W (by decide)) (k2 := vX12_older_2 Q n) (fun _ _ i => ih _ _ i) hQ _ _ iμ7
      · intro e14
        exact jfX12_older_66 (I := I) (gw_sub W (by decide)) (k2 := vX12_older_2 Q n) (fun _ _ i => ih _ _ i) hQ _ _ i
def vX12_older (μ : km_S) (Q : km_S → Prop) : Prop := ∀ j, vX12_older_2 Q j 0 μ
set_option maxRecDepth 100000 in
set_option maxHeartbeats 4000000 in
theorem jcX12_older {Q Q' Q'' : km_S → Prop} (hQ : ∀ y0, Q y0 → Q' y0 → Q'' y0) : ∀ (μ : km_S), wX12_older μ Q → vX12_older μ Q' → wX12_older μ Q'' := by
  intro μ h v
  unfold wX12_older at h
  unfold vX12_older at v
  unfold wX12_older
  obtain ⟨j, h⟩ := h
  refine ⟨j, ?_⟩
  have v := v j
  exact jcX12_older_2 hQ _ _ _ h v
set_option maxRecDepth 100000 in
set_option maxHeartbeats 4000000 in
theorem jaX12_older {Q Q' : km_S → Prop} (hQ : ∀ y0, Q y0 → Q' y0) : ∀ (μ : km_S), wX12_older μ Q → vX12_older μ Q' := by
  intro μ h
  unfold wX12_older at h
  unfold vX12_older
  obtain ⟨j, h⟩ := h
  intro j9
  exact jaX12_older_2 hQ _ j9 _ _ h
set_option maxRecDepth 100000 in
set_option maxHeartbeats 4000000 in
theorem jfX12_older {I : km_S → Prop} (W : gw_ I [31, 32, 38, 41]) {Q : km_S → Prop} (hQ : ∀ y0, I y0 → Q y0) : ∀ (μ : km_S), I μ → vX12_older μ Q := by
  intro μ i
  unfold vX12_older
  intro j
  exact jfX12_older_2 (I := I) (gw_sub W (by decide)) hQ _ _ _ i
def vX12_saw_19 (Q : km_S → Prop) : Nat → Int32 → Int32 → km_S → Prop
  | 0, _, _, _ => True
  | n + 1, l1, l2, μ => vp_in l1 400 → (((km_a μ 36 l1.toNatClampNeg) ≤ l2 → Q μ) ∧ (¬ ((km_a μ 36 l1.toNatClampNeg) ≤ l2) → vp_in (km_i μ 6) 3600 → ∀ μ4, μ4 = km_sa μ 43 (km_i μ 6).toNatClampNeg l1 → ∀ μ5, μ5 = km_si μ4 6 ((km_i μ4 6) + 1) → ∀ v6 : Int32, v6 = l2 + 1 → vX12_saw_19 Q n l1 v6 μ5))
set_option maxRecDepth 100000 in
set_option maxHeartbeats 4000000 in
theorem jcX12_saw_19 {Q Q' Q'' : km_S → Prop} (hQ : ∀ y0, Q y0 → Q' y0 → Q'' y0) : ∀ (n : Nat) (l1 : Int32) (l2 : Int32) (μ : km_S), wX12_saw_19 Q n l1 l2 μ → vX12_saw_19 Q' n l1 l2 μ → wX12_saw_19 Q'' n l1 l2 μ := by
  intro n
  induction n with
  | zero => intro l1 l2 μ h; exact h.elim
  | succ n ih =>
    intro l1 l2 μ h v
    unfold wX12_saw_19 at h
    unfold vX12_saw_19 at v
    unfold wX12_saw_19
    refine ⟨h.1, ?_⟩
    have v := v h.1
    have h := h.2
    refine ⟨?_, ?_⟩
    · have h := h.1
      have v := v.1
      intro e2
      have h := h e2
      have v := v e2
      exact hQ _ h v
    · have h := h.2
      have v := v.2
      intro e3
      have h := h e3
      have v := v e3
      refine ⟨h.1, ?_⟩
      have v := v h.1
      have h := h.2
      intro μ4 e5
      have h := h μ4 e5
      have v := v μ4 e5
      intro μ5 e6
      have h := h μ5 e6
      have v := v μ5 e6
      intro v6 e7
      have h := h v6 e7
      have v := v v6 e7
      exact ih _ _ _ h v
set_option maxRecDepth 100000 in
set_option maxHeartbeats 4000000 in
theorem jaX12_saw_19 {Q Q' : km_S → Prop} (hQ : ∀ y0, Q y0 → Q' y0) : ∀ (n m : Nat) (l1 : Int32) (l2 : Int32) (μ : km_S), wX12_saw_19 Q n l1 l2 μ → vX12_saw_19 Q' m l1 l2 μ := by
  intro n
  induction n with
  | zero => intro m l1 l2 μ h; exact h.elim
  | succ n ih =>
    intro m l1 l2 μ h
    cases m with
    | zero => exact trivial
    | succ m =>
      unfold wX12_saw_19 at h
      unfold vX12_saw_19
      intro e1
      have h := h.2
      refine ⟨?_, ?_⟩
      · have h := h.1
        intro e2
        have h := h e2
        exact hQ _ h
      · have h := h.2
        intro e3
        have h := h e3
        intro e4
        have h := h.2
        intro μ4 e5
        have h := h μ4 e5
        intro μ5 e6
        have h := h μ5 e6
        intro v6 e7
        have h := h v6 e7
        exact ih m _ _ _ h
set_option maxRecDepth 100000 in
set_option maxHeartbeats 4000000 in
theorem jfX12_saw_19 {I : km_S → Prop} (W : gw_ I [6, 43]) {Q : km_S → Prop} (hQ : ∀ y0, I y0 → Q y0) : ∀ (n : Nat) (l1 : Int32) (l2 : Int32) (μ : km_S), I μ → vX12_saw_19 Q n l1 l2 μ := by
  intro n
  induction n with
  | zero => intro l1 l2 μ i; exact trivial
  | succ n ih =>
    intro l1 l2 μ i
    unfold vX12_saw_19
    intro e1
    refine ⟨?_, ?_⟩
    · intro e2
      exact hQ _ i
    · intro e3
      intro e4
      intro μ4 e5
      have iμ4 : I μ4 := by rw [e5]; exact ((W _ i) 43 (by decide)).2.1 _ _
      intro μ5 e6
      have iμ5 : I μ5 := by rw [e6]; exact ((W _ iμ4) 6 (by decide)).1 _
      intro v6 e7
      exact ih _ _ _ iμ5
def vX12_saw (l1 : Int32) (μ : km_S) (Q : km_S → Prop) : Prop := vp_in l1 400 → ∀ μ8, μ8 = km_sa μ 38 l1.toNatClampNeg 3 → vp_in l1 400 → ∀ μ10, μ10 = km_sa μ8 42 l1.toNatClampNeg (km_i μ8 6) → ∀ j, vX12_saw_19 Q j l1 0 μ10
set_option maxRecDepth 100000 in
set_option maxHeartbeats 4000000 in
theorem jcX12_saw {Q Q' Q'' : km_S → Prop} (hQ : ∀ y0, Q y0 → Q' y0 → Q'' y0) : ∀ (l1 : Int32) (μ : km_S), wX12_saw l1 μ Q → vX12_saw l1 μ Q' → wX12_saw l1 μ Q'' := by
  intro l1 μ h v
  unfold wX12_saw at h
  unfold vX12_saw at v
  unfold wX12_saw
  refine ⟨h.1, ?_⟩
  have v := v h.1
  have h := h.2
  intro μ8 e2
  have h := h μ8 e2
  have v := v μ8 e2
  refine ⟨h.1, ?_⟩
  have v := v h.1
  have h := h.2
  intro μ10 e4
  have h := h μ10 e4
  have v := v μ10 e4
  obtain ⟨j, h⟩ := h
  refine ⟨j, ?_⟩
  have v := v j
  exact jcX12_saw_19 hQ _ _ _ _ h v
set_option maxRecDepth 100000 in
set_option maxHeartbeats 4000000 in
theorem jaX12_saw {Q Q' : km_S → Prop} (hQ : ∀ y0, Q y0 → Q' y0) : ∀ (l1 : Int32) (μ : km_S), wX12_saw l1 μ Q → vX12_saw l1 μ Q' := by
  intro l1 μ h
  unfold wX12_saw at h
  unfold vX12_saw
  intro e1
  have h := h.2
  intro μ8 e2
  have h := h μ8 e2
  intro e3
  have h := h.2
  intro μ10 e4
  have h := h μ10 e4
  obtain ⟨j, h⟩ := h
  intro j9
  exact jaX12_saw_19 hQ _ j9 _ _ _ h
set_option maxRecDepth 100000 in
set_option maxHeartbeats 4000000 in
theorem jfX12_saw {I : km_S → Prop} (W : gw_ I [6, 38, 42, 43]) {Q : km_S → Prop} (hQ : ∀ y0, I y0 → Q y0) : ∀ (l1 : Int32) (μ : km_S), I μ → vX12_saw l1 μ Q := by
  intro l1 μ i
  unfold vX12_saw
  intro e1
  intro μ8 e2
  have iμ8 : I μ8 := by rw [e2]; exact ((W _ i) 38 (by decide)).2.1 _ _
  intro e3
  intro μ10 e4
  have iμ10 : I μ10 := by rw [e4]; exact ((W _ iμ8) 42 (by decide)).2.1 _ _
  intro j
  exact jfX12_saw_19 (I := I) (gw_sub W (by decide)) hQ _ _ _ _ iμ10
def vX12_mills_202 (k2 : Int32 → km_S → Prop) (Q : km_S → Prop) (l1 : Int32) (μ : km_S) : Prop := ∀ v1 : Int32, v1 = l1 + 1 → k2 v1 μ
set_option maxRecDepth 100000 in
set_option maxHeartbeats 4000000 in
theorem jcX12_mills_202 {k2 k2' k2'' : Int32 → km_S → Prop} (hk2 : ∀ y0 y1, k2 y0 y1 → k2' y0 y1 → k2'' y0 y1) {Q Q' Q'' : km_S → Prop} (hQ : ∀ y0, Q y0 → Q' y0 → Q'' y0) : ∀ (l1 : Int32) (μ : km_S), wX12_mills_202 k2 Q l1 μ → vX12_mills_202 k2' Q' l1 μ → wX12_mills_202 k2'' Q'' l1 μ := by
  intro l1 μ h v
  unfold wX12_mills_202 at h
  unfold vX12_mills_202 at v
  unfold wX12_mills_202
  intro v1 e1
  have h := h v1 e1
  have v := v v1 e1
  exact hk2 _ _ h v
set_option maxRecDepth 100000 in
set_option maxHeartbeats 4000000 in
theorem jaX12_mills_202 {k2 k2' : Int32 → km_S → Prop} (hk2 : ∀ y0 y1, k2 y0 y1 → k2' y0 y1) {Q Q' : km_S → Prop} (hQ : ∀ y0, Q y0 → Q' y0) : ∀ (l1 : Int32) (μ : km_S), wX12_mills_202 k2 Q l1 μ → vX12_mills_202 k2' Q' l1 μ := by
  intro l1 μ h
  unfold wX12_mills_202 at h
  unfold vX12_mills_202
  intro v1 e1
  have h := h v1 e1
  exact hk2 _ _ h
set_option maxRecDepth 100000 in
set_option maxHeartbeats 4000000 in
theorem jfX12_mills_202 {I : km_S → Prop} (W : gw_ I []) {k2 : Int32 → km_S → Prop} (hk2 : ∀ y0 y1, I y1 → k2 y0 y1) {Q : km_S → Prop} (hQ : ∀ y0, I y0 → Q y0) : ∀ (l1 : Int32) (μ : km_S), I μ → vX12_mills_202 k2 Q l1 μ := by
  intro l1 μ i
  unfold vX12_mills_202
  intro v1 e1
  exact hk2 _ _ i
def vX12_mills_196 (k14 : Int32 → Int32 → Int32 → km_S → Prop) (Q : km_S → Prop) (l1 : Int32) (l2 : Int32) (l3 : Int32) (μ : km_S) : Prop := ∀ v2 : Int32, v2 = l3 + 1 → k14 l1 l2 v2 μ
set_option maxRecDepth 100000 in
set_option maxHeartbeats 4000000 in
theorem jcX12_mills_196 {k14 k14' k14'' : Int32 → Int32 → Int32 → km_S → Prop} (hk14 : ∀ y0 y1 y2 y3, k14 y0 y1 y2 y3 → k14' y0 y1 y2 y3 → k14'' y0 y1 y2 y3) {Q Q' Q'' : km_S → Prop} (hQ : ∀ y0, Q y0 → Q' y0 → Q'' y0) : ∀ (l1 : Int32) (l2 : Int32) (l3 : Int32) (μ : km_S), wX12_mills_196 k14 Q l1 l2 l3 μ → vX12_mills_196 k14' Q' l1 l2 l3 μ → wX12_mills_196 k14'' Q'' l1 l2 l3 μ := by
  intro l1 l2 l3 μ h v
  unfold wX12_mills_196 at h
  unfold vX12_mills_196 at v
  unfold wX12_mills_196
  intro v2 e1
  have h := h v2 e1
  have v := v v2 e1
  exact hk14 _ _ _ _ h v
set_option maxRecDepth 100000 in
set_option maxHeartbeats 4000000 in
theorem jaX12_mills_196 {k14 k14' : Int32 → Int32 → Int32 → km_S → Prop} (hk14 : ∀ y0 y1 y2 y3, k14 y0 y1 y2 y3 → k14' y0 y1 y2 y3) {Q Q' : km_S → Prop} (hQ : ∀ y0, Q y0 → Q' y0) : ∀ (l1 : Int32) (l2 : Int32) (l3 : Int32) (μ : km_S), wX12_mills_196 k14 Q l1 l2 l3 μ → vX12_mills_196 k14' Q' l1 l2 l3 μ := by
  intro l1 l2 l3 μ h
  unfold wX12_mills_196 at h
  unfold vX12_mills_196
  intro v2 e1
  have h := h v2 e1
  exact hk14 _ _ _ _ h
set_option maxRecDepth 100000 in
set_option maxHeartbeats 4000000 in
theorem jfX12_mills_196 {I : km_S → Prop} (W : gw_ I []) {k14 : Int32 → Int32 → Int32 → km_S → Prop} (hk14 : ∀ y0 y1 y2 y3, I y3 → k14 y0 y1 y2 y3) {Q : km_S → Prop} (hQ : ∀ y0, I y0 → Q y0) : ∀ (l1 : Int32) (l2 : Int32) (l3 : Int32) (μ : km_S), I μ → vX12_mills_196 k14 Q l1 l2 l3 μ := by
  intro l1 l2 l3 μ i
  unfold vX12_mills_196
  intro v2 e1
  exact hk14 _ _ _ _ i
def vX12_mills_109 (k38 : Int32 → Int32 → Int32 → Int32 → km_S → Prop) (Q : km_S → Prop) (l1 : Int32) (l2 : Int32) (l3 : Int32) (l4 : Int32) (μ : km_S) : Prop := ∀ v3 : Int32, v3 = l4 + 1 → k38 l1 l2 l3 v3 μ
set_option maxRecDepth 100000 in
set_option maxHeartbeats 4000000 in
theorem jcX12_mills_109 {k38 k38' k38'' : Int32 → Int32 → Int32 → Int32 → km_S → Prop} (hk38 : ∀ y0 y1 y2 y3 y4, k38 y0 y1 y2 y3 y4 → k38' y0 y1 y2 y3 y4 → k38'' y0 y1 y2 y3 y4) {Q Q' Q'' : km_S → Prop} (hQ : ∀ y0, Q y0 → Q' y0 → Q'' y0) : ∀ (l1 : Int32) (l2 : Int32) (l3 : Int32) (l4 : Int32) (μ : km_S), wX12_mills_109 k38 Q l1 l2 l3 l4 μ → vX12_mills_109 k38' Q' l1 l2 l3 l4 μ → wX12_mills_109 k38'' Q'' l1 l2 l3 l4 μ := by
  intro l1 l2 l3 l4 μ h v
  unfold wX12_mills_109 at h
  unfold vX12_mills_109 at v
  unfold wX12_mills_109
  intro v3 e1
  have h := h v3 e1
  have v := v v3 e1
  exact hk38 _ _ _ _ _ h v
set_option maxRecDepth 100000 in
set_option maxHeartbeats 4000000 in
theorem jaX12_mills_109 {k38 k38' : Int32 → Int32 → Int32 → Int32 → km_S → Prop} (hk38 : ∀ y0 y1 y2 y3 y4, k38 y0 y1 y2 y3 y4 → k38' y0 y1 y2 y3 y4) {Q Q' : km_S → Prop} (hQ : ∀ y0, Q y0 → Q' y0) : ∀ (l1 : Int32) (l2 : Int32) (l3 : Int32) (l4 : Int32) (μ : km_S), wX12_mills_109 k38 Q l1 l2 l3 l4 μ → vX12_mills_109 k38' Q' l1 l2 l3 l4 μ := by
  intro l1 l2 l3 l4 μ h
  unfold wX12_mills_109 at h
  unfold vX12_mills_109
  intro v3 e1
  have h := h v3 e1
  exact hk38 _ _ _ _ _ h
set_option maxRecDepth 100000 in
set_option maxHeartbeats 4000000 in
theorem jfX12_mills_109 {I : km_S → Prop} (W : gw_ I []) {k38 : Int32 → Int32 → Int32 → Int32 → km_S → Prop} (hk38 : ∀ y0 y1 y2 y3 y4, I y4 → k38 y0 y1 y2 y3 y4) {Q : km_S → Prop} (hQ : ∀ y0, I y0 → Q y0) : ∀ (l1 : Int32) (l2 : Int32) (l3 : Int32) (l4 : Int32) (μ : km_S), I μ → vX12_mills_109 k38 Q l1 l2 l3 l4 μ := by
  intro l1 l2 l3 l4 μ i
  unfold vX12_mills_109
  intro v3 e1
  exact hk38 _ _ _ _ _ i
def vX12_mills_164 (k38 : Int32 → Int32 → Int32 → Int32 → km_S → Prop) (Q : km_S → Prop) (l1 : Int32) (l2 : Int32) (l3 : Int32) (l4 : Int32) (l5 : Int32) (μ : km_S) : Prop := vp_in l1 10 → vp_in l1 10 → ∀ μ6, μ6 = km_sa μ 29 l1.toNatClampNeg ((km_a μ 29 l1.toNatClampNeg) - 1) → vX12_saw l5 μ6 (fun μ7 => vp_in l3 60 → vp_in l3 60 → ∀ μ10, μ10 = km_sa μ7 50 l3.toNatClampNeg ((km_a μ7 50 l3.toNatClampNeg) - 1) → ∀ v11 : Int32, v11 = l2 + 1 → k38 l1 v11 l3 l4 μ10)
set_option maxRecDepth 100000 in
set_option maxHeartbeats 4000000 in
theorem jcX12_mills_164 {k38 k38' k38'' : Int32 → Int32 → Int32 → Int32 → km_S → Prop} (hk38 : ∀ y0 y1 y2 y3 y4, k38 y0 y1 y2 y3 y4 → k38' y0 y1 y2 y3 y4 → k38'' y0 y1 y2 y3 y4) {Q Q' Q'' : km_S → Prop} (hQ : ∀ y0, Q y0 → Q' y0 → Q'' y0) : ∀ (l1 : Int32) (l2 : Int32) (l3 : Int32) (l4 : Int32) (l5 : Int32) (μ : km_S), wX12_mills_164 k38 Q l1 l2 l3 l4 l5 μ → vX12_mills_164 k38' Q' l1 l2 l3 l4 l5 μ → wX12_mills_164 k38'' Q'' l1 l2 l3 l4 l5 μ := by
  intro l1 l2 l3 l4 l5 μ h v
  unfold wX12_mills_164 at h
  unfold vX12_mills_164 at v
  unfold wX12_mills_164
  refine ⟨h.1, ?_⟩
  have v := v h.1
  have h := h.2
  refine ⟨h.1, ?_⟩
  have v := v h.1
  have h := h.2
  intro μ6 e3
  have h := h μ6 e3
  have v := v μ6 e3
  refine jcX12_saw ?_ _ _ h v
  intro μ7 h v
  refine ⟨h.1, ?_⟩
  have v := v h.1
  have h := h.2
  refine ⟨h.1, ?_⟩
  have v := v h.1
  have h := h.2
  intro μ10 e6
  have h := h μ10 e6
  have v := v μ10 e6
  intro v11 e7
  have h := h v11 e7
  have v := v v11 e7
  exact hk38 _ _ _ _ _ h v
set_option maxRecDepth 100000 in
set_option maxHeartbeats 4000000 in
theorem jaX12_mills_164 {k38 k38' : Int32 → Int32 → Int32 → Int32 → km_S → Prop} (hk38 : ∀ y0 y1 y2 y3 y4, k38 y0 y1 y2 y3 y4 → k38' y0 y1 y2 y3 y4) {Q Q' : km_S → Prop} (hQ : ∀ y0, Q y0 → Q' y0) : ∀ (l1 : Int32) (l2 : Int32) (l3 : Int32) (l4 : Int32) (l5 : Int32) (μ : km_S), wX12_mills_164 k38 Q l1 l2 l3 l4 l5 μ → vX12_mills_164 k38' Q' l1 l2 l3 l4 l5 μ := by
  intro l1 l2 l3 l4 l5 μ h
  unfold wX12_mills_164 at h
  unfold vX12_mills_164
  intro e1
  have h := h.2
  intro e2
  have h := h.2
  intro μ6 e3
  have h := h μ6 e3
  refine jaX12_saw ?_ _ _ h
  intro μ7 h
  intro e4
  have h := h.2
  intro e5
  have h := h.2
  intro μ10 e6
  have h := h μ10 e6
  intro v11 e7
  have h := h v11 e7
  exact hk38 _ _ _ _ _ h
set_option maxRecDepth 100000 in
set_option maxHeartbeats 4000000 in
theorem jfX12_mills_164 {I : km_S → Prop} (W : gw_ I [6, 29, 38, 42, 43, 50]) {k38 : Int32 → Int32 → Int32 → Int32 → km_S → Prop} (hk38 : ∀ y0 y1 y2 y3 y4, I y4 → k38 y0 y1 y2 y3 y4) {Q : km_S → Prop} (hQ : ∀ y0, I y0 → Q y0) : ∀ (l1 : Int32) (l2 : Int32) (l3 : Int32) (l4 : Int32) (l5 : Int32) (μ : km_S), I μ → vX12_mills_164 k38 Q l1 l2 l3 l4 l5 μ := by
  intro l1 l2 l3 l4 l5 μ i
  unfold vX12_mills_164
  intro e1
  intro e2
  intro μ6 e3
  have iμ6 : I μ6 := by rw [e3]; exact ((W _ i) 29 (by decide)).2.1 _ _
  refine jfX12_saw (I := I) (gw_sub W (by decide)) ?_ _ _ iμ6
  intro μ7 iμ7
  intro e4
  intro e5
  intro μ10 e6
  have iμ10 : I μ10 := by rw [e6]; exact ((W _ iμ7) 50 (by decide)).2.1 _ _
  intro v11 e7
  exact hk38 _ _ _ _ _ iμ10

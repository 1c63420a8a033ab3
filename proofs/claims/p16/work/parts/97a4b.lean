def vX12_move_105 (k2 : Int32 → km_S → Prop) (Q : km_S → Prop) (l1 : Int32) (μ : km_S) : Prop := ∀ v1 : Int32, v1 = l1 + 1 → k2 v1 μ
set_option maxRecDepth 100000 in
set_option maxHeartbeats 4000000 in
theorem jcX12_move_105 {k2 k2' k2'' : Int32 → km_S → Prop} (hk2 : ∀ y0 y1, k2 y0 y1 → k2' y0 y1 → k2'' y0 y1) {Q Q' Q'' : km_S → Prop} (hQ : ∀ y0, Q y0 → Q' y0 → Q'' y0) : ∀ (l1 : Int32) (μ : km_S), wX12_move_105 k2 Q l1 μ → vX12_move_105 k2' Q' l1 μ → wX12_move_105 k2'' Q'' l1 μ := by
  intro l1 μ h v
  unfold wX12_move_105 at h
  unfold vX12_move_105 at v
  unfold wX12_move_105
  intro v1 e1
  have h := h v1 e1
  have v := v v1 e1
  exact hk2 _ _ h v
set_option maxRecDepth 100000 in
set_option maxHeartbeats 4000000 in
theorem jaX12_move_105 {k2 k2' : Int32 → km_S → Prop} (hk2 : ∀ y0 y1, k2 y0 y1 → k2' y0 y1) {Q Q' : km_S → Prop} (hQ : ∀ y0, Q y0 → Q' y0) : ∀ (l1 : Int32) (μ : km_S), wX12_move_105 k2 Q l1 μ → vX12_move_105 k2' Q' l1 μ := by
  intro l1 μ h
  unfold wX12_move_105 at h
  unfold vX12_move_105
  intro v1 e1
  have h := h v1 e1
  exact hk2 _ _ h
set_option maxRecDepth 100000 in
set_option maxHeartbeats 4000000 in
theorem jfX12_move_105 {I : km_S → Prop} (W : gw_ I []) {k2 : Int32 → km_S → Prop} (hk2 : ∀ y0 y1, I y1 → k2 y0 y1) {Q : km_S → Prop} (hQ : ∀ y0, I y0 → Q y0) : ∀ (l1 : Int32) (μ : km_S), I μ → vX12_move_105 k2 Q l1 μ := by
  intro l1 μ i
  unfold vX12_move_105
  intro v1 e1
  exact hk2 _ _ i
def vX12_move_99 (k19 : Int32 → Int32 → km_S → Prop) (Q : km_S → Prop) (l1 : Int32) (l2 : Int32) (μ : km_S) : Prop := ∀ v2 : Int32, v2 = l2 + (-1) → k19 l1 v2 μ
set_option maxRecDepth 100000 in
set_option maxHeartbeats 4000000 in
theorem jcX12_move_99 {k19 k19' k19'' : Int32 → Int32 → km_S → Prop} (hk19 : ∀ y0 y1 y2, k19 y0 y1 y2 → k19' y0 y1 y2 → k19'' y0 y1 y2) {Q Q' Q'' : km_S → Prop} (hQ : ∀ y0, Q y0 → Q' y0 → Q'' y0) : ∀ (l1 : Int32) (l2 : Int32) (μ : km_S), wX12_move_99 k19 Q l1 l2 μ → vX12_move_99 k19' Q' l1 l2 μ → wX12_move_99 k19'' Q'' l1 l2 μ := by
  intro l1 l2 μ h v
  unfold wX12_move_99 at h
  unfold vX12_move_99 at v
  unfold wX12_move_99
  intro v2 e1
  have h := h v2 e1
  have v := v v2 e1
  exact hk19 _ _ _ h v
set_option maxRecDepth 100000 in
set_option maxHeartbeats 4000000 in
theorem jaX12_move_99 {k19 k19' : Int32 → Int32 → km_S → Prop} (hk19 : ∀ y0 y1 y2, k19 y0 y1 y2 → k19' y0 y1 y2) {Q Q' : km_S → Prop} (hQ : ∀ y0, Q y0 → Q' y0) : ∀ (l1 : Int32) (l2 : Int32) (μ : km_S), wX12_move_99 k19 Q l1 l2 μ → vX12_move_99 k19' Q' l1 l2 μ := by
  intro l1 l2 μ h
  unfold wX12_move_99 at h
  unfold vX12_move_99
  intro v2 e1
  have h := h v2 e1
  exact hk19 _ _ _ h
set_option maxRecDepth 100000 in
set_option maxHeartbeats 4000000 in
theorem jfX12_move_99 {I : km_S → Prop} (W : gw_ I []) {k19 : Int32 → Int32 → km_S → Prop} (hk19 : ∀ y0 y1 y2, I y2 → k19 y0 y1 y2) {Q : km_S → Prop} (hQ : ∀ y0, I y0 → Q y0) : ∀ (l1 : Int32) (l2 : Int32) (μ : km_S), I μ → vX12_move_99 k19 Q l1 l2 μ := by
  intro l1 l2 μ i
  unfold vX12_move_99
  intro v2 e1
  exact hk19 _ _ _ i
def vX12_move_75 (k99 : Int32 → Int32 → km_S → Prop) (Q : km_S → Prop) : Nat → Int32 → Int32 → Int32 → Int32 → km_S → Prop
  | 0, _, _, _, _, _ => True
  | n + 1, l1, l2, l4, l5, μ => ((l4 ≤ l5 → k99 l1 l2 μ) ∧ (¬ (l4 ≤ l5) → vp_in l5 20 → vX12_go (km_a μ 69 l5.toNatClampNeg) μ (fun μ5 => ∀ v6 : Int32, v6 = l5 + 1 → vX12_move_75 k99 Q n l1 l2 l4 v6 μ5)))
set_option maxRecDepth 100000 in
set_option maxHeartbeats 4000000 in
theorem jcX12_move_75 {k99 k99' k99'' : Int32 → Int32 → km_S → Prop} (hk99 : ∀ y0 y1 y2, k99 y0 y1 y2 → k99' y0 y1 y2 → k99'' y0 y1 y2) {Q Q' Q'' : km_S → Prop} (hQ : ∀ y0, Q y0 → Q' y0 → Q'' y0) : ∀ (n : Nat) (l1 : Int32) (l2 : Int32) (l4 : Int32) (l5 : Int32) (μ : km_S), wX12_move_75 k99 Q n l1 l2 l4 l5 μ → vX12_move_75 k99' Q' n l1 l2 l4 l5 μ → wX12_move_75 k99'' Q'' n l1 l2 l4 l5 μ := by
  intro n
  induction n with
  | zero => intro l1 l2 l4 l5 μ h; exact h.elim
  | succ n ih =>
    intro l1 l2 l4 l5 μ h v
    unfold wX12_move_75 at h
    unfold vX12_move_75 at v
    unfold wX12_move_75
    refine ⟨?_, ?_⟩
    · have h := h.1
      have v := v.1
      intro e1
      have h := h e1
      have v := v e1
      exact hk99 _ _ _ h v
    · have h := h.2
      have v := v.2
      intro e2
      have h := h e2
      have v := v e2
      refine ⟨h.1, ?_⟩
      have v := v h.1
      have h := h.2
      refine jcX12_go ?_ _ _ h v
      intro μ5 h v
      intro v6 e4
      have h := h v6 e4
      have v := v v6 e4
      exact ih _ _ _ _ _ h v
set_option maxRecDepth 100000 in
set_option maxHeartbeats 4000000 in
theorem jaX12_move_75 {k99 k99' : Int32 → Int32 → km_S → Prop} (hk99 : ∀ y0 y1 y2, k99 y0 y1 y2 → k99' y0 y1 y2) {Q Q' : km_S → Prop} (hQ : ∀ y0, Q y0 → Q' y0) : ∀ (n m : Nat) (l1 : Int32) (l2 : Int32) (l4 : Int32) (l5 : Int32) (μ : km_S), wX12_move_75 k99 Q n l1 l2 l4 l5 μ → vX12_move_75 k99' Q' m l1 l2 l4 l5 μ := by
  intro n
  induction n with
  | zero => intro m l1 l2 l4 l5 μ h; exact h.elim
  | succ n ih =>
    intro m l1 l2 l4 l5 μ h
    cases m with
    | zero => exact trivial
    | succ m =>
      unfold wX12_move_75 at h
      unfold vX12_move_75
      refine ⟨?_, ?_⟩
      · have h := h.1
        intro e1
        have h := h e1
        exact hk99 _ _ _ h
      · have h := h.2
        intro e2
        have h := h e2
        intro e3
        have h := h.2
        refine jaX12_go ?_ _ _ h
        intro μ5 h
        intro v6 e4
        have h := h v6 e4
        exact ih m _ _ _ _ _ h
set_option maxRecDepth 100000 in
set_option maxHeartbeats 4000000 in
theorem jfX12_move_75 {I : km_S → Prop} (W : gw_ I [29, 30, 31, 32, 38, 39, 40, 57, 68, 1000]) {k99 : Int32 → Int32 → km_S → Prop} (hk99 : ∀ y0 y1 y2, I y2 → k99 y0 y1 y2) {Q : km_S → Prop} (hQ : ∀ y0, I y0 → Q y0) : ∀ (n : Nat) (l1 : Int32) (l2 : Int32) (l4 : Int32) (l5 : Int32) (μ : km_S), I μ → vX12_move_75 k99 Q n l1 l2 l4 l5 μ := by
  intro n
  induction n with
  | zero => intro l1 l2 l4 l5 μ i; exact trivial
  | succ n ih =>
    intro l1 l2 l4 l5 μ i
    unfold vX12_move_75
    refine ⟨?_, ?_⟩
    · intro e1
      exact hk99 _ _ _ i
    · intro e2
      intro e3
      refine jfX12_go (I := I) (gw_sub W (by decide)) ?_ _ _ i
      intro μ5 iμ5
      intro v6 e4
      exact ih _ _ _ _ _ iμ5
def vX12_move_72 (k19 : Int32 → Int32 → km_S → Prop) (Q : km_S → Prop) (l1 : Int32) (l2 : Int32) (l4 : Int32) (μ : km_S) : Prop := ∀ j, vX12_move_75 (vX12_move_99 k19 Q) Q j l1 l2 l4 0 μ
set_option maxRecDepth 100000 in
set_option maxHeartbeats 4000000 in
theorem jcX12_move_72 {k19 k19' k19'' : Int32 → Int32 → km_S → Prop} (hk19 : ∀ y0 y1 y2, k19 y0 y1 y2 → k19' y0 y1 y2 → k19'' y0 y1 y2) {Q Q' Q'' : km_S → Prop} (hQ : ∀ y0, Q y0 → Q' y0 → Q'' y0) : ∀ (l1 : Int32) (l2 : Int32) (l4 : Int32) (μ : km_S), wX12_move_72 k19 Q l1 l2 l4 μ → vX12_move_72 k19' Q' l1 l2 l4 μ → wX12_move_72 k19'' Q'' l1 l2 l4 μ := by
  intro l1 l2 l4 μ h v
  unfold wX12_move_72 at h
  unfold vX12_move_72 at v
  unfold wX12_move_72
  obtain ⟨j, h⟩ := h
  refine ⟨j, ?_⟩
  have v := v j
  exact jcX12_move_75 (k99 := wX12_move_99 k19 Q) (k99' := vX12_move_99 k19' Q') (k99'' := wX12_move_99 k19'' Q'') (fun _ _ _ h v => jcX12_move_99 hk19 hQ _ _ _ h v) hQ _ _ _ _ _ _ h v
set_option maxRecDepth 100000 in
set_option maxHeartbeats 4000000 in
theorem jaX12_move_72 {k19 k19' : Int32 → Int32 → km_S → Prop} (hk19 : ∀ y0 y1 y2, k19 y0 y1 y2 → k19' y0 y1 y2) {Q Q' : km_S → Prop} (hQ : ∀ y0, Q y0 → Q' y0) : ∀ (l1 : Int32) (l2 : Int32) (l4 : Int32) (μ : km_S), wX12_move_72 k19 Q l1 l2 l4 μ → vX12_move_72 k19' Q' l1 l2 l4 μ := by
  intro l1 l2 l4 μ h
  unfold wX12_move_72 at h
  unfold vX12_move_72
  obtain ⟨j, h⟩ := h
  intro j9
  exact jaX12_move_75 (k99 := wX12_move_99 k19 Q) (k99' := vX12_move_99 k19' Q') (fun _ _ _ h => jaX12_move_99 hk19 hQ _ _ _ h) hQ _ j9 _ _ _ _ _ h
set_option maxRecDepth 100000 in
set_option maxHeartbeats 4000000 in
theorem jfX12_move_72 {I : km_S → Prop} (W : gw_ I [29, 30, 31, 32, 38, 39, 40, 57, 68, 1000]) {k19 : Int32 → Int32 → km_S → Prop} (hk19 : ∀ y0 y1 y2, I y2 → k19 y0 y1 y2) {Q : km_S → Prop} (hQ : ∀ y0, I y0 → Q y0) : ∀ (l1 : Int32) (l2 : Int32) (l4 : Int32) (μ : km_S), I μ → vX12_move_72 k19 Q l1 l2 l4 μ := by
  intro l1 l2 l4 μ i
  unfold vX12_move_72
  intro j
  exact jfX12_move_75 (I := I) (gw_sub W (by decide)) (k99 := vX12_move_99 k19 Q) (fun _ _ _ i => jfX12_move_99 (I := I) (gw_sub W (by decide)) hk19 hQ _ _ _ i) hQ _ _ _ _ _ _ i
def vX12_move_40 (k72 : Int32 → Int32 → Int32 → km_S → Prop) (Q : km_S → Prop) : Nat → Int32 → Int32 → Int32 → Int32 → Int32 → km_S → Prop
  | 0, _, _, _, _, _, _ => True
  | n + 1, l1, l2, l3, l4, l5, μ => ((l4 ≤ l5 → k72 l1 l2 l4 μ) ∧ (¬ (l4 ≤ l5) → vp_in ((20 * l3) + l5) 2400 → vp_in l5 20 → ∀ μ11, μ11 = km_sa μ 69 l5.toNatClampNeg (km_a μ 32 ((20 * l3) + l5).toNatClampNeg) → ∀ v12 : Int32, v12 = l5 + 1 → vX12_move_40 k72 Q n l1 l2 l3 l4 v12 μ11))
set_option maxRecDepth 100000 in
set_option maxHeartbeats 4000000 in
theorem jcX12_move_40 {k72 k72' k72'' : Int32 → Int32 → Int32 → km_S → Prop} (hk72 : ∀ y0 y1 y2 y3, k72 y0 y1 y2 y3 → k72' y0 y1 y2 y3 → k72'' y0 y1 y2 y3) {Q Q' Q'' : km_S → Prop} (hQ : ∀ y0, Q y0 → Q' y0 → Q'' y0) : ∀ (n : Nat) (l1 : Int32) (l2 : Int32) (l3 : Int32) (l4 : Int32) (l5 : Int32) (μ : km_S), wX12_move_40 k72 Q n l1 l2 l3 l4 l5 μ → vX12_move_40 k72' Q' n l1 l2 l3 l4 l5 μ → wX12_move_40 k72'' Q'' n l1 l2 l3 l4 l5 μ := by
  intro n
  induction n with
  | zero => intro l1 l2 l3 l4 l5 μ h; exact h.elim
  | succ n ih =>
    intro l1 l2 l3 l4 l5 μ h v
    unfold wX12_move_40 at h
    unfold vX12_move_40 at v
    unfold wX12_move_40
    refine ⟨?_, ?_⟩
    · have h := h.1
      have v := v.1
      intro e1
      have h := h e1
      have v := v e1
      exact hk72 _ _ _ _ h v
    · have h := h.2
      have v := v.2
      intro e2
      have h := h e2
      have v := v e2
      refine ⟨h.1, ?_⟩
      have v := v h.1
      have h := h.2
      refine ⟨h.1, ?_⟩
      have v := v h.1
      have h := h.2
      intro μ11 e5
      have h := h μ11 e5
      have v := v μ11 e5
      intro v12 e6
      have h := h v12 e6
      have v := v v12 e6
      exact ih _ _ _ _ _ _ h v
set_option maxRecDepth 100000 in
set_option maxHeartbeats 4000000 in
theorem jaX12_move_40 {k72 k72' : Int32 → Int32 → Int32 → km_S → Prop} (hk72 : ∀ y0 y1 y2 y3, k72 y0 y1 y2 y3 → k72' y0 y1 y2 y3) {Q Q' : km_S → Prop} (hQ : ∀ y0, Q y0 → Q' y0) : ∀ (n m : Nat) (l1 : Int32) (l2 : Int32) (l3 : Int32) (l4 : Int32) (l5 : Int32) (μ : km_S), wX12_move_40 k72 Q n l1 l2 l3 l4 l5 μ → vX12_move_40 k72' Q' m l1 l2 l3 l4 l5 μ := by
  intro n
  induction n with
  | zero => intro m l1 l2 l3 l4 l5 μ h; exact h.elim
  | succ n ih =>
    intro m l1 l2 l3 l4 l5 μ h
    cases m with
    | zero => exact trivial
    | succ m =>
      unfold wX12_move_40 at h
      unfold vX12_move_40
      refine ⟨?_, ?_⟩
      · have h := h.1
        intro e1
        have h := h e1
        exact hk72 _ _ _ _ h
      · have h := h.2
        intro e2
        have h := h e2
        intro e3
        have h := h.2
        intro e4
        have h := h.2
        intro μ11 e5
        have h := h μ11 e5
        intro v12 e6
        have h := h v12 e6
        exact ih m _ _ _ _ _ _ h
set_option maxRecDepth 100000 in
set_option maxHeartbeats 4000000 in
theorem jfX12_move_40 {I : km_S → Prop} (W : gw_ I [69]) {k72 : Int32 → Int32 → Int32 → km_S → Prop} (hk72 : ∀ y0 y1 y2 y3, I y3 → k72 y0 y1 y2 y3) {Q : km_S → Prop} (hQ : ∀ y0, I y0 → Q y0) : ∀ (n : Nat) (l1 : Int32) (l2 : Int32) (l3 : Int32) (l4 : Int32) (l5 : Int32) (μ : km_S), I μ → vX12_move_40 k72 Q n l1 l2 l3 l4 l5 μ := by
  intro n
  induction n with
  | zero => intro l1 l2 l3 l4 l5 μ i; exact trivial
  | succ n ih =>
    intro l1 l2 l3 l4 l5 μ i
    unfold vX12_move_40
    refine ⟨?_, ?_⟩
    · intro e1
      exact hk72 _ _ _ _ i
    · intro e2
      intro e3
      intro e4
      intro μ11 e5
      have iμ11 : I μ11 := by rw [e5]; exact ((W _ i) 69 (by decide)).2.1 _ _
      intro v12 e6
      exact ih _ _ _ _ _ _ iμ11
def vX12_move_19 (k105 : Int32 → km_S → Prop) (Q : km_S → Prop) : Nat → Int32 → Int32 → km_S → Prop
  | 0, _, _, _ => True
  | n + 1, l1, l2, μ => ((l2 < 0 → k105 l1 μ) ∧ (¬ (l2 < 0) → vX12_at0 l1 l2 μ (fun r15 μ14 => vp_in r15 120 → ∀ v17, v17 = km_a μ14 31 r15.toNatClampNeg → ∀ j, vX12_move_40 (vX12_move_72 (vX12_move_19 k105 Q n) Q) Q j l1 l2 r15 v17 0 μ14)))
set_option maxRecDepth 100000 in
set_option maxHeartbeats 4000000 in
theorem jcX12_move_19 {k105 k105' k105'' : Int32 → km_S → Prop} (hk105 : ∀ y0 y1, k105 y0 y1 → k105' y0 y1 → k105'' y0 y1) {Q Q' Q'' : km_S → Prop} (hQ : ∀ y0, Q y0 → Q' y0 → Q'' y0) : ∀ (n : Nat) (l1 : Int32) (l2 : Int32) (μ : km_S), wX12_move_19 k105 Q n l1 l2 μ → vX12_move_19 k105' Q' n l1 l2 μ → wX12_move_19 k105'' Q'' n l1 l2 μ := by
  intro n
  induction n with
  | zero => intro l1 l2 μ h; exact h.elim
  | succ n ih =>
    intro l1 l2 μ h v
    unfold wX12_move_19 at h
    unfold vX12_move_19 at v
    unfold wX12_move_19
    refine ⟨?_, ?_⟩
    · have h := h.1
      have v := v.1
      intro e1
      have h := h e1
      have v := v e1
      exact hk105 _ _ h v
    · have h := h.2
      have v := v.2
      intro e2
      have h := h e2
      have v := v e2
      refine jcX12_at0 ?_ _ _ _ h v
      intro r15 μ14 h v
      refine ⟨h.1, ?_⟩
      have v := v h.1
      have h := h.2
      intro v17 e4
      have h := h v17 e4
      have v := v v17 e4
      obtain ⟨j, h⟩ := h
      refine ⟨j, ?_⟩
      have v := v j
      exact jcX12_move_40 (k72 := wX12_move_72 (wX12_move_19 k105 Q n) Q) (k72' := vX12_move_72 (vX12_move_19 k105' Q' n) Q') (k72'' := wX12_move_72 (wX12_move_19 k105'' Q'' n) Q'') (fun _ _ _ _ h v => jcX12_move_72 (k19 := wX12_move_19 k105 Q n) (k19' := vX12_move_19 k105' Q' n) (k19'' := wX12_move_19 k105'' Q'' n) (fun _ _ _ h v => ih _ _ _ h v) hQ _ _ _ _ h v) hQ _ _ _ _ _ _ _ h v
set_option maxRecDepth 100000 in
set_option maxHeartbeats 4000000 in
theorem jaX12_move_19 {k105 k105' : Int32 → km_S → Prop} (hk105 : ∀ y0 y1, k105 y0 y1 → k105' y0 y1) {Q Q' : km_S → Prop} (hQ : ∀ y0, Q y0 → Q' y0) : ∀ (n m : Nat) (l1 : Int32) (l2 : Int32) (μ : km_S), wX12_move_19 k105 Q n l1 l2 μ → vX12_move_19 k105' Q' m l1 l2 μ := by
  intro n
  induction n with
  | zero => intro m l1 l2 μ h; exact h.elim
  | succ n ih =>
    intro m l1 l2 μ h
    cases m with
    | zero => exact trivial
    | succ m =>
      unfold wX12_move_19 at h
      unfold vX12_move_19
      refine ⟨?_, ?_⟩
      · have h := h.1
        intro e1
        have h := h e1
        exact hk105 _ _ h
      · have h := h.2
        intro e2
        have h := h e2
        refine jaX12_at0 ?_ _ _ _ h
        intro r15 μ14 h
        intro e3
        have h := h.2
        intro v17 e4
        have h := h v17 e4
        obtain ⟨j, h⟩ := h
        intro j9
        exact jaX12_move_40 (k72 := wX12_move_72 (wX12_move_19 k105 Q n) Q) (k72' := vX12_move_72 (vX12_move_19 k105' Q' m) Q') (fun _ _ _ _ h => jaX12_move_72 (k19 := wX12_move_19 k105 Q n) (k19' := vX12_move_19 k105' Q' m) (fun _ _ _ h => ih m _ _ _ h) hQ _ _ _ _ h) hQ _ j9 _ _ _ _ _ _ h
set_option maxRecDepth 100000 in
set_option maxHeartbeats 4000000 in
theorem jfX12_move_19 {I : km_S → Prop} (W : gw_ I [29, 30, 31, 32, 38, 39, 40, 57, 68, 69, 1000]) {k105 : Int32 → km_S → Prop} (hk105 : ∀ y0 y1, I y1 → k105 y0 y1) {Q : km_S → Prop} (hQ : ∀ y0, I y0 → Q y0) : ∀ (n : Nat) (l1 : Int32) (l2 : Int32) (μ : km_S), I μ → vX12_move_19 k105 Q n l1 l2 μ := by
  intro n
  induction n with
  | zero => intro l1 l2 μ i; exact trivial
  | succ n ih =>
    intro l1 l2 μ i
    unfold vX12_move_19
    refine ⟨?_, ?_⟩
    · intro e1
      exact hk105 _ _ i
    · intro e2
      refine jfX12_at0 (I := I) (gw_sub W (by decide)) ?_ _ _ _ i
      intro r15 μ14 iμ14
      intro e3
      intro v17 e4
      intro j
      exact jfX12_move_40 (I := I) (gw_sub W (by decide)) (k72 := vX12_move_72 (vX12_move_19 k105 Q n) Q) (fun _ _ _ _ i => jfX12_move_72 (I := I) (gw_sub W (by decide)) (k19 := vX12_move_19 k105 Q n) (fun _ _ _ i => ih _ _ _ i) hQ _ _ _ _ i) hQ _ _ _ _ _ _ _ iμ14
def vX12_move_2 (Q : km_S → Prop) : Nat → Int32 → km_S → Prop
  | 0, _, _ => True
  | n + 1, l1, μ => (((km_i μ 3) ≤ l1 → Q μ) ∧ (¬ ((km_i μ 3) ≤ l1) → vp_in l1 10 → ∀ v21, v21 = (km_a μ 14 l1.toNatClampNeg) - 1 → ∀ j, vX12_move_19 (vX12_move_105 (vX12_move_2 Q n) Q) Q j l1 v21 μ))
set_option maxRecDepth 100000 in
set_option maxHeartbeats 4000000 in
theorem jcX12_move_2 {Q Q' Q'' : km_S → Prop} (hQ : ∀ y0, Q y0 → Q' y0 → Q'' y0) : ∀ (n : Nat) (l1 : Int32) (μ : km_S), wX12_move_2 Q n l1 μ → vX12_move_2 Q' n l1 μ → wX12_move_2 Q'' n l1 μ := by
  intro n
  induction n with
  | zero => intro l1 μ h; exact h.elim
  | succ n ih =>
    intro l1 μ h v
    unfold wX12_move_2 at h
    unfold vX12_move_2 at v
    unfold wX12_move_2
    refine ⟨?_, ?_⟩
    · have h := h.1
      have v := v.1
      intro e1
      have h := h e1
      have v := v e1
      exact hQ _ h v
    · have h := h.2
      have v := v.2
      intro e2
      have h := h e2
      have v := v e2
      refine ⟨h.1, ?_⟩
      have v := v h.1
      have h := h.2
      intro v21 e4
      have h := h v21 e4
      have v := v v21 e4
      obtain ⟨j, h⟩ := h
      refine ⟨j, ?_⟩
      have v := v j
      exact jcX12_move_19 (k105 := wX12_move_105 (wX12_move_2 Q n) Q) (k105' := vX12_move_105 (vX12_move_2 Q' n) Q') (k105'' := wX12_move_105 (wX12_move_2 Q'' n) Q'') (fun _ _ h v => jcX12_move_105 (k2 := wX12_move_2 Q n) (k2' := vX12_move_2 Q' n) (k2'' := wX12_move_2 Q'' n) (fun _ _ h v => ih _ _ h v) hQ _ _ h v) hQ _ _ _ _ h v
set_option maxRecDepth 100000 in
set_option maxHeartbeats 4000000 in
theorem jaX12_move_2 {Q Q' : km_S → Prop} (hQ : ∀ y0, Q y0 → Q' y0) : ∀ (n m : Nat) (l1 : Int32) (μ : km_S), wX12_move_2 Q n l1 μ → vX12_move_2 Q' m l1 μ := by
  intro n
  induction n with
  | zero => intro m l1 μ h; exact h.elim
  | succ n ih =>
    intro m l1 μ h
    cases m with
    | zero => exact trivial
    | succ m =>
      unfold wX12_move_2 at h
      unfold vX12_move_2
      refine ⟨?_, ?_⟩
      · have h := h.1
        intro e1
        have h := h e1
        exact hQ _ h
      · have h := h.2
        intro e2
        have h := h e2
        intro e3
        have h := h.2
        intro v21 e4
        have h := h v21 e4
        obtain ⟨j, h⟩ := h
        intro j9
        exact jaX12_move_19 (k105 := wX12_move_105 (wX12_move_2 Q n) Q) (k105' := vX12_move_105 (vX12_move_2 Q' m) Q') (fun _ _ h => jaX12_move_105 (k2 := wX12_move_2 Q n) (k2' := vX12_move_2 Q' m) (fun _ _ h => ih m _ _ h) hQ _ _ h) hQ _ j9 _ _ _ h
set_option maxRecDepth 100000 in
set_option maxHeartbeats 4000000 in
theorem jfX12_move_2 {I : km_S → Prop} (W : gw_ I [29, 30, 31, 32, 38, 39, 40, 57, 68, 69, 1000]) {Q : km_S → Prop} (hQ : ∀ y0, I y0 → Q y0) : ∀ (n : Nat) (l1 : Int32) (μ : km_S), I μ → vX12_move_2 Q n l1 μ := by
  intro n
  induction n with
  | zero => intro l1 μ i; exact trivial
  | succ n ih =>
    intro l1 μ i
    unfold vX12_move_2
    refine ⟨?_, ?_⟩
    · intro e1
      exact hQ _ i
    · intro e2
      intro e3
      intro v21 e4
      intro j
      exact jfX12_move_19 (I := I) (gw_sub W (by decide)) (k105 := vX12_move_105 (vX12_move_2 Q n) Q) (fun _ _ i => jfX12_move_105 (I := I) (gw_sub W (by decide)) (k2 := vX12_move_2 Q n) (fun _ _ i => ih _ _ i) hQ _ _ i) hQ _ _ _ _ i
def vX12_move (μ : km_S) (Q : km_S → Prop) : Prop := ∀ j, vX12_move_2 Q j 0 μ
set_option maxRecDepth 100000 in
set_option maxHeartbeats 4000000 in
theorem jcX12_move {Q Q' Q'' : km_S → Prop} (hQ : ∀ y0, Q y0 → Q' y0 → Q'' y0) : ∀ (μ : km_S), wX12_move μ Q → vX12_move μ Q' → wX12_move μ Q'' := by
  intro μ h v
  unfold wX12_move at h
  unfold vX12_move at v
  unfold wX12_move
  obtain ⟨j, h⟩ := h
  refine ⟨j, ?_⟩
  have v := v j
  exact jcX12_move_2 hQ _ _ _ h v
set_option maxRecDepth 100000 in
set_option maxHeartbeats 4000000 in
theorem jaX12_move {Q Q' : km_S → Prop} (hQ : ∀ y0, Q y0 → Q' y0) : ∀ (μ : km_S), wX12_move μ Q → vX12_move μ Q' := by
  intro μ h
  unfold wX12_move at h
  unfold vX12_move
  obtain ⟨j, h⟩ := h
  intro j9
  exact jaX12_move_2 hQ _ j9 _ _ h
set_option maxRecDepth 100000 in
set_option maxHeartbeats 4000000 in
theorem jfX12_move {I : km_S → Prop} (W : gw_ I [29, 30, 31, 32, 38, 39, 40, 57, 68, 69, 1000]) {Q : km_S → Prop} (hQ : ∀ y0, I y0 → Q y0) : ∀ (μ : km_S), I μ → vX12_move μ Q := by
  intro μ i
  unfold vX12_move
  intro j
  exact jfX12_move_2 (I := I) (gw_sub W (by decide)) hQ _ _ _ i
def vX12_jams_302 (k213 : Int32 → km_S → Prop) (Q : km_S → Prop) (l1 : Int32) (μ : km_S) : Prop := ∀ v1 : Int32, v1 = l1 + 1 → k213 v1 μ
set_option maxRecDepth 100000 in
set_option maxHeartbeats 4000000 in
theorem jcX12_jams_302 {k213 k213' k213'' : Int32 → km_S → Prop} (hk213 : ∀ y0 y1, k213 y0 y1 → k213' y0 y1 → k213'' y0 y1) {Q Q' Q'' : km_S → Prop} (hQ : ∀ y0, Q y0 → Q' y0 → Q'' y0) : ∀ (l1 : Int32) (μ : km_S), wX12_jams_302 k213 Q l1 μ → vX12_jams_302 k213' Q' l1 μ → wX12_jams_302 k213'' Q'' l1 μ := by
  intro l1 μ h v
  unfold wX12_jams_302 at h
  unfold vX12_jams_302 at v
  unfold wX12_jams_302
  intro v1 e1
  have h := h v1 e1
  have v := v v1 e1
  exact hk213 _ _ h v
set_option maxRecDepth 100000 in
set_option maxHeartbeats 4000000 in
theorem jaX12_jams_302 {k213 k213' : Int32 → km_S → Prop} (hk213 : ∀ y0 y1, k213 y0 y1 → k213' y0 y1) {Q Q' : km_S → Prop} (hQ : ∀ y0, Q y0 → Q' y0) : ∀ (l1 : Int32) (μ : km_S), wX12_jams_302 k213 Q l1 μ → vX12_jams_302 k213' Q' l1 μ := by
  intro l1 μ h
  unfold wX12_jams_302 at h
  unfold vX12_jams_302
  intro v1 e1
  have h := h v1 e1
  exact hk213 _ _ h
set_option maxRecDepth 100000 in
set_option maxHeartbeats 4000000 in
theorem jfX12_jams_302 {I : km_S → Prop} (W : gw_ I []) {k213 : Int32 → km_S → Prop} (hk213 : ∀ y0 y1, I y1 → k213 y0 y1) {Q : km_S → Prop} (hQ : ∀ y0, I y0 → Q y0) : ∀ (l1 : Int32) (μ : km_S), I μ → vX12_jams_302 k213 Q l1 μ := by
  intro l1 μ i
  unfold vX12_jams_302
  intro v1 e1
  exact hk213 _ _ i
def vX12_jams_296 (k258 : Int32 → Int32 → Int32 → km_S → Prop) (Q : km_S → Prop) (l1 : Int32) (l2 : Int32) (l3 : Int32) (μ : km_S) : Prop := ∀ v2 : Int32, v2 = l3 + 1 → k258 l1 l2 v2 μ
set_option maxRecDepth 100000 in
set_option maxHeartbeats 4000000 in
theorem jcX12_jams_296 {k258 k258' k258'' : Int32 → Int32 → Int32 → km_S → Prop} (hk258 : ∀ y0 y1 y2 y3, k258 y0 y1 y2 y3 → k258' y0 y1 y2 y3 → k258'' y0 y1 y2 y3) {Q Q' Q'' : km_S → Prop} (hQ : ∀ y0, Q y0 → Q' y0 → Q'' y0) : ∀ (l1 : Int32) (l2 : Int32) (l3 : Int32) (μ : km_S), wX12_jams_296 k258 Q l1 l2 l3 μ → vX12_jams_296 k258' Q' l1 l2 l3 μ → wX12_jams_296 k258'' Q'' l1 l2 l3 μ := by
  intro l1 l2 l3 μ h v
  unfold wX12_jams_296 at h
  unfold vX12_jams_296 at v
  unfold wX12_jams_296
  intro v2 e1
  have h := h v2 e1
  have v := v v2 e1
  exact hk258 _ _ _ _ h v
set_option maxRecDepth 100000 in
set_option maxHeartbeats 4000000 in
theorem jaX12_jams_296 {k258 k258' : Int32 → Int32 → Int32 → km_S → Prop} (hk258 : ∀ y0 y1 y2 y3, k258 y0 y1 y2 y3 → k258' y0 y1 y2 y3) {Q Q' : km_S → Prop} (hQ : ∀ y0, Q y0 → Q' y0) : ∀ (l1 : Int32) (l2 : Int32) (l3 : Int32) (μ : km_S), wX12_jams_296 k258 Q l1 l2 l3 μ → vX12_jams_296 k258' Q' l1 l2 l3 μ := by
  intro l1 l2 l3 μ h
  unfold wX12_jams_296 at h
  unfold vX12_jams_296
  intro v2 e1
  have h := h v2 e1
  exact hk258 _ _ _ _ h
set_option maxRecDepth 100000 in
set_option maxHeartbeats 4000000 in
theorem jfX12_jams_296 {I : km_S → Prop} (W : gw_ I []) {k258 : Int32 → Int32 → Int32 → km_S → Prop} (hk258 : ∀ y0 y1 y2 y3, I y3 → k258 y0 y1 y2 y3) {Q : km_S → Prop} (hQ : ∀ y0, I y0 → Q y0) : ∀ (l1 : Int32) (l2 : Int32) (l3 : Int32) (μ : km_S), I μ → vX12_jams_296 k258 Q l1 l2 l3 μ := by
  intro l1 l2 l3 μ i
  unfold vX12_jams_296
  intro v2 e1
  exact hk258 _ _ _ _ i
def vX12_jams_250 (k230 : Int32 → Int32 → Int32 → km_S → Prop) (Q : km_S → Prop) (l1 : Int32) (l2 : Int32) (l3 : Int32) (μ : km_S) : Prop := ∀ v3 : Int32, v3 = l3 + 1 → k230 l1 l2 v3 μ
set_option maxRecDepth 100000 in
set_option maxHeartbeats 4000000 in
theorem jcX12_jams_250 {k230 k230' k230'' : Int32 → Int32 → Int32 → km_S → Prop} (hk230 : ∀ y0 y1 y2 y3, k230 y0 y1 y2 y3 → k230' y0 y1 y2 y3 → k230'' y0 y1 y2 y3) {Q Q' Q'' : km_S → Prop} (hQ : ∀ y0, Q y0 → Q' y0 → Q'' y0) : ∀ (l1 : Int32) (l2 : Int32) (l3 : Int32) (μ : km_S), wX12_jams_250 k230 Q l1 l2 l3 μ → vX12_jams_250 k230' Q' l1 l2 l3 μ → wX12_jams_250 k230'' Q'' l1 l2 l3 μ := by
  intro l1 l2 l3 μ h v
  unfold wX12_jams_250 at h
  unfold vX12_jams_250 at v
  unfold wX12_jams_250
  intro v3 e1
  have h := h v3 e1
  have v := v v3 e1
  exact hk230 _ _ _ _ h v
set_option maxRecDepth 100000 in
set_option maxHeartbeats 4000000 in
theorem jaX12_jams_250 {k230 k230' : Int32 → Int32 → Int32 → km_S → Prop} (hk230 : ∀ y0 y1 y2 y3, k230 y0 y1 y2 y3 → k230' y0 y1 y2 y3) {Q Q' : km_S → Prop} (hQ : ∀ y0, Q y0 → Q' y0) : ∀ (l1 : Int32) (l2 : Int32) (l3 : Int32) (μ : km_S), wX12_jams_250 k230 Q l1 l2 l3 μ → vX12_jams_250 k230' Q' l1 l2 l3 μ := by
  intro l1 l2 l3 μ h
  unfold wX12_jams_250 at h
  unfold vX12_jams_250
  intro v3 e1
  have h := h v3 e1
  exact hk230 _ _ _ _ h
set_option maxRecDepth 100000 in
set_option maxHeartbeats 4000000 in
theorem jfX12_jams_250 {I : km_S → Prop} (W : gw_ I []) {k230 : Int32 → Int32 → Int32 → km_S → Prop} (hk230 : ∀ y0 y1 y2 y3, I y3 → k230 y0 y1 y2 y3) {Q : km_S → Prop} (hQ : ∀ y0, I y0 → Q y0) : ∀ (l1 : Int32) (l2 : Int32) (l3 : Int32) (μ : km_S), I μ → vX12_jams_250 k230 Q l1 l2 l3 μ := by
  intro l1 l2 l3 μ i
  unfold vX12_jams_250
  intro v3 e1
  exact hk230 _ _ _ _ i
def vX12_jams_205 (k81 : Int32 → km_S → Prop) (Q : km_S → Prop) (l1 : Int32) (μ : km_S) : Prop := ∀ v4 : Int32, v4 = l1 + 1 → k81 v4 μ
set_option maxRecDepth 100000 in
set_option maxHeartbeats 4000000 in
theorem jcX12_jams_205 {k81 k81' k81'' : Int32 → km_S → Prop} (hk81 : ∀ y0 y1, k81 y0 y1 → k81' y0 y1 → k81'' y0 y1) {Q Q' Q'' : km_S → Prop} (hQ : ∀ y0, Q y0 → Q' y0 → Q'' y0) : ∀ (l1 : Int32) (μ : km_S), wX12_jams_205 k81 Q l1 μ → vX12_jams_205 k81' Q' l1 μ → wX12_jams_205 k81'' Q'' l1 μ := by
  intro l1 μ h v
  unfold wX12_jams_205 at h
  unfold vX12_jams_205 at v
  unfold wX12_jams_205
  intro v4 e1
  have h := h v4 e1
  have v := v v4 e1
  exact hk81 _ _ h v
set_option maxRecDepth 100000 in
set_option maxHeartbeats 4000000 in
theorem jaX12_jams_205 {k81 k81' : Int32 → km_S → Prop} (hk81 : ∀ y0 y1, k81 y0 y1 → k81' y0 y1) {Q Q' : km_S → Prop} (hQ : ∀ y0, Q y0 → Q' y0) : ∀ (l1 : Int32) (μ : km_S), wX12_jams_205 k81 Q l1 μ → vX12_jams_205 k81' Q' l1 μ := by
  intro l1 μ h
  unfold wX12_jams_205 at h
  unfold vX12_jams_205
  intro v4 e1
  have h := h v4 e1
  exact hk81 _ _ h
set_option maxRecDepth 100000 in
set_option maxHeartbeats 4000000 in
theorem jfX12_jams_205 {I : km_S → Prop} (W : gw_ I []) {k81 : Int32 → km_S → Prop} (hk81 : ∀ y0 y1, I y1 → k81 y0 y1) {Q : km_S → Prop} (hQ : ∀ y0, I y0 → Q y0) : ∀ (l1 : Int32) (μ : km_S), I μ → vX12_jams_205 k81 Q l1 μ := by
  intro l1 μ i
  unfold vX12_jams_205
  intro v4 e1
  exact hk81 _ _ i
